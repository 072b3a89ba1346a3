/**
 * The edges of loaders, and of promises 8 to 11. Each method has the document's sentence above it.
 */
public final class LockEdgesTest {
    public static void main(String[] args) {
        emptyOrNotInAllWays();
        anEmptyPathIsNotAnEmptyArchive();
        wantedLoadersThatAreThere();
        wantedLoadersThatAreGone();
        changedArchivesChangeNoLoader();
        lockAScopeThatIsThere();
        lockOnce();
        lockBehindTheParent();
        threeNumbersMustBeFree();
        threeNumbersAnywhere();
        refusedForNumbersChangesNothing();
        fortyIsTheLastNumber();
        leastFreeNumbers();
        mostLoadersOfARun();
        releaseAScopeThatIsThere();
        releaseOnce();
        releaseBehindTheChildren();
        releaseTellsHowManyAreGone();
        goneUpToTheFirstThatIsHeld();
        loaderOfAScopeThatIsThere();
        loaderWhileLocked();
        lookAtLoadersThatAreThere();
        lookForAnotherWhat();
        lookAtTheRoot();
        lookAtHolders();
        lookAtDefinedClasses();
        Check.end();
    }

    private static void looks(ScopeTree x, int loader, int kind, int parent, int holders) {
        Check.is("kind of " + loader, x.look(loader, 0), kind);
        Check.is("parent of " + loader, x.look(loader, 1), parent);
        Check.is("holders of " + loader, x.look(loader, 2), holders);
    }

    private static int child(ScopeTree x, int parent, boolean hasExport, boolean hasFilter, boolean hasLocal) {
        int scope = x.child(parent);
        if (hasExport) {
            x.add(scope, 0, true);
        }
        if (hasFilter) {
            x.filter(scope, 255, 0, 0);
        }
        if (hasLocal) {
            x.add(scope, 1, false);
        }
        return scope;
    }

    // "but that loader itself if the path is empty", "but E if it has no filter", "but E if the path
    // is empty", "(In this order; it holds E, too.)"
    private static void emptyOrNotInAllWays() {
        for (int ways = 0; ways < 8; ways++) {
            boolean hasExport = (ways & 1) != 0;
            boolean hasFilter = (ways & 2) != 0;
            boolean hasLocal = (ways & 4) != 0;
            ScopeTree x = new ScopeTree();
            x.file(1, 8, 0, 0);
            child(x, 0, hasExport, hasFilter, hasLocal);
            int base = hasExport ? 1 : 0;
            int export = hasFilter ? base + 1 : base;
            int local = hasLocal ? export + 1 : base;
            Check.is("local loader, ways " + ways, x.lock(1), local);
            Check.is("loader(1, false), ways " + ways, x.loader(1, false), local);
            Check.is("loader(1, true), ways " + ways, x.loader(1, true), export);
            // E is held three times in any way: as E, and twice by the scope or the loaders below.
            if (hasExport) {
                looks(x, 1, 1, 0, 3);
                Check.is("root, ways " + ways, x.look(0, 2), 2 + 1);
            } else {
                Check.is("root, ways " + ways, x.look(0, 2), 2 + 3);
            }
            if (hasFilter) {
                looks(x, export, 2, base, 1);
            }
            if (hasLocal) {
                looks(x, local, 1, base, 1);
            }
            int made = (hasExport ? 1 : 0) + (hasFilter ? 1 : 0) + (hasLocal ? 1 : 0);
            Check.is("no loader more, ways " + ways, x.look(made + 1, 0), -1);
            Check.is("gone by release, ways " + ways, x.release(1), made);
            Check.is("root again, ways " + ways, x.look(0, 2), 2);
        }
    }

    // "if the path is empty": one with an empty archive is not.
    private static void anEmptyPathIsNotAnEmptyArchive() {
        ScopeTree x = new ScopeTree();
        child(x, 0, true, false, false);
        Check.is("export path of an empty archive", x.lock(1), 1);
        int scope = child(x, 1, false, false, true);
        Check.is("local path of an empty archive", x.lock(scope), 2);
        looks(x, 2, 1, 1, 1);
    }

    // "A loader that is wanted is the one that is there with the same parent and an alike class
    // path, or the same filter; otherwise a new one."
    private static void wantedLoadersThatAreThere() {
        ScopeTree x = new ScopeTree();
        Check.is("new ones", x.lock(child(x, 0, true, true, true)), 3);
        Check.is("all three are there", x.lock(child(x, 0, true, true, true)), 3);
        looks(x, 1, 1, 0, 4);
        looks(x, 2, 2, 1, 2);
        looks(x, 3, 1, 1, 2);
        Check.is("the same from another parent", x.lock(child(x, 1, true, true, true)), 6);
        looks(x, 4, 1, 2, 3);
        looks(x, 5, 2, 4, 1);
        looks(x, 6, 1, 4, 1);
        Check.is("the same filter, another path", x.lock(child(x, 0, false, true, false)), 0);
        looks(x, 7, 2, 0, 1);
        x.child(0);
        x.filter(5, 254, 0, 0);
        x.child(0);
        x.filter(6, 255, 1L << 63, 0);
        x.child(0);
        x.filter(7, 255, 0, 1L << 63);
        for (int scope = 5; scope <= 7; scope++) {
            x.lock(scope);
            Check.is("another filter of scope " + scope, x.loader(scope, true), 3 + scope);
        }
        Check.is("of a defining one and a filtering one neither is the other", x.look(7, 0) + x.look(1, 0), 3);
    }

    // "the one that is there": one that is gone is not.
    private static void wantedLoadersThatAreGone() {
        ScopeTree x = new ScopeTree();
        x.file(0, 8, 0, 0);
        Check.is("first", x.lock(child(x, 0, true, false, false)), 1);
        int old = x.load(1, 8);
        x.release(1);
        Check.is("its number is free again", x.lock(child(x, 0, true, false, false)), 1);
        Check.is("a new loader has defined none", x.look(1, 3), 0);
        Check.is("it defines its own class", x.load(2, 8), 9);
        Check.is("the old class is gone", x.info(old, 1), -1);
        Check.is("the new one is not", x.info(9, 1), 1);
    }

    // "(An archive whose files are changed later changes no loader: that has the files as they were.
    // Alike is what they are as loaders have them.)"
    private static void changedArchivesChangeNoLoader() {
        ScopeTree x = new ScopeTree();
        x.file(0, 8, 0, 1);
        x.descriptor(0, 0, 1);
        for (int scope = 1; scope <= 4; scope++) {
            child(x, 0, true, false, false);
        }
        Check.is("as it is", x.lock(1), 1);
        x.file(0, 9, 0, 1);
        x.descriptor(0, 1, 1);
        Check.is("with one more of both", x.lock(2), 2);
        Check.missing("the first has no file more", () -> x.load(1, 9));
        Check.is("nor a descriptor more", x.apply(1, 1), -1);
        x.wipe(0);
        Check.is("empty", x.lock(3), 3);
        Check.is("the first has its file", x.info(x.load(1, 8), 2), 1);
        Check.is("and its descriptor", x.apply(1, 0), 1);
        x.file(0, 8, 0, 1);
        x.descriptor(0, 0, 1);
        Check.is("as it was at first", x.lock(4), 1);
    }

    // "IllegalArgumentException when there is no such scope"
    private static void lockAScopeThatIsThere() {
        ScopeTree x = new ScopeTree();
        x.child(0);
        x.child(0);
        Check.badArguments("scope", 0, 2, scope -> x.lock(scope));
        Check.is("the last one", x.lock(2), 0);
    }

    // "IllegalStateException when it is locked or released"
    private static void lockOnce() {
        ScopeTree x = new ScopeTree();
        child(x, 0, true, true, true);
        child(x, 0, false, false, false);
        Check.badState("scope 0", () -> x.lock(0));
        x.lock(1);
        Check.badState("locked", () -> x.lock(1));
        looks(x, 1, 1, 0, 3);
        x.release(2);
        Check.badState("released when open", () -> x.lock(2));
        x.release(1);
        Check.badState("released when locked", () -> x.lock(1));
        Check.is("none came back", x.look(1, 0), -1);
        Check.is("root", x.look(0, 2), 2);
    }

    // "(its parent must be locked)", "or its parent is not locked"
    private static void lockBehindTheParent() {
        ScopeTree x = new ScopeTree();
        for (int scope = 1; scope < 12; scope++) {
            child(x, scope - 1, true, false, false);
        }
        for (int scope = 11; scope > 1; scope--) {
            int s = scope;
            Check.badState("scope " + scope + ", parent open", () -> x.lock(s));
            Check.is("it is still open", x.loader(scope, false), -1);
        }
        Check.is("no loader came", x.look(1, 0), -1);
        for (int scope = 1; scope < 12; scope++) {
            Check.is("scope " + scope + ", parent locked", x.lock(scope), scope);
        }
    }

    // "UnsupportedOperationException when there are not three loader numbers free"
    private static void threeNumbersMustBeFree() {
        for (int free = 0; free <= 4; free++) {
            for (int ways = 0; ways < 8; ways++) {
                ScopeTree x = new ScopeTree();
                x.file(1, 8, 0, 0);
                child(x, 0, (ways & 1) != 0, (ways & 2) != 0, (ways & 4) != 0);
                LoaderNumbers.take(x, 1, 40 - free);
                if (free < 3) {
                    // Also when it would need fewer than three: the document asks for three free.
                    Check.refused(free + " free, ways " + ways, () -> x.lock(1));
                } else {
                    int needed = (ways & 1) + (ways >> 1 & 1) + (ways >> 2 & 1);
                    int local = (ways & 4) != 0 ? 40 - free + needed : (ways & 1) != 0 ? 41 - free : 0;
                    Check.is(free + " free, ways " + ways, x.lock(1), local);
                }
            }
        }
    }

    // "three loader numbers free": wherever they are, from the first to the last.
    private static void threeNumbersAnywhere() {
        int[][] gaps = {{1, 2, 3}, {1, 2, 40}, {1, 20, 40}, {1, 39, 40}, {7, 8, 20}, {38, 39, 40}};
        for (int[] gap : gaps) {
            ScopeTree x = new ScopeTree();
            x.file(1, 8, 0, 0);
            child(x, 0, true, true, true);
            LoaderNumbers.take(x, 1, 40);
            LoaderNumbers.giveBack(x, gap[0]);
            LoaderNumbers.giveBack(x, gap[2]);
            Check.refused("two free, " + gap[0] + " and " + gap[2], () -> x.lock(1));
            LoaderNumbers.giveBack(x, gap[1]);
            Check.is("local", x.lock(1), gap[2]);
            Check.is("export", x.loader(1, true), gap[1]);
            Check.is("E", x.look(gap[2], 1), gap[0]);
        }
    }

    // "(then nothing is changed)"
    private static void refusedForNumbersChangesNothing() {
        ScopeTree x = new ScopeTree();
        x.file(0, 8, 0, 0);
        x.file(1, 9, 0, 0);
        child(x, 0, true, true, false);
        LoaderNumbers.take(x, 1, 38);
        Check.refused("two free", () -> x.lock(1));
        Check.is("no local loader", x.loader(1, false), -1);
        Check.is("no export loader", x.loader(1, true), -1);
        Check.is("39 is free", x.look(39, 0), -1);
        Check.is("40 is free", x.look(40, 0), -1);
        Check.is("the root is held as before", x.look(0, 2), 2);
        Check.badState("it is not locked", () -> x.load(1, 8));
        Check.yes("its path can grow", x.add(1, 1, false));
        Check.no("its path is as it was", x.add(1, 0, true));
        Check.refused("still two free", () -> x.lock(1));
        LoaderNumbers.giveBack(x, 7);
        Check.is("three free", x.lock(1), 40);
        Check.is("its filter is as it was", x.loader(1, true), 39);
        looks(x, 7, 1, 0, 3);
        looks(x, 39, 2, 7, 1);
        looks(x, 40, 1, 7, 1);
        Check.is("its classes", x.load(1, 8), 8);
        Check.is("of both paths", x.load(1, 9), 9);
    }

    // "others, 1 .. 40"
    private static void fortyIsTheLastNumber() {
        ScopeTree x = new ScopeTree();
        x.file(0, 8, 0, 0);
        child(x, 0, true, true, true);
        LoaderNumbers.take(x, 1, 37);
        Check.is("local", x.lock(1), 40);
        Check.is("export", x.loader(1, true), 39);
        Check.is("40 is there", x.look(40, 0), 1);
        Check.is("41 never is", x.look(41, 0), -1);
        Check.is("38 defines", x.info(x.load(1, 8), 1), 38);
        child(x, 0, true, true, true);
        Check.refused("none is free, though all three are there", () -> x.lock(2));
        Check.is("all are gone", x.release(1), 3);
        Check.is("40 is free", x.look(40, 0), -1);
        Check.is("now there are three", x.lock(2), 40);
    }

    // "the least that is free when they come"
    private static void leastFreeNumbers() {
        ScopeTree x = new ScopeTree();
        for (int archive = 0; archive < 9; archive++) {
            x.file(archive, 8 + archive, 0, 0);
        }
        for (int scope = 1; scope <= 8; scope++) {
            x.child(0);
            x.add(scope, scope, true);
            Check.is("one by one", x.lock(scope), scope);
        }
        x.release(7);
        x.release(1);
        x.release(4);
        child(x, 0, true, true, true);
        Check.is("local, the third of the gaps", x.lock(9), 7);
        Check.is("export, the second", x.loader(9, true), 4);
        looks(x, 1, 1, 0, 3);
        x.child(0);
        x.add(10, 1, true);
        Check.is("no gap is left", x.lock(10), 9);
    }

    // Eleven scopes with three loaders each are the most that calls can make.
    private static void mostLoadersOfARun() {
        ScopeTree x = new ScopeTree();
        for (int scope = 1; scope < 12; scope++) {
            child(x, scope - 1, true, true, true);
            Check.is("local", x.lock(scope), 3 * scope);
        }
        looks(x, 33, 1, 31, 1);
        looks(x, 32, 2, 31, 1);
        looks(x, 31, 1, 29, 3);
        Check.is("no 34", x.look(34, 0), -1);
        for (int scope = 11; scope > 0; scope--) {
            Check.is("gone", x.release(scope), 3);
            Check.is("no " + (3 * scope - 2), x.look(3 * scope - 2, 0), -1);
        }
        looks(x, 0, 0, -1, 2);
    }

    // "IllegalArgumentException when there is no such scope, or it is 0"
    private static void releaseAScopeThatIsThere() {
        ScopeTree x = new ScopeTree();
        Check.badArgument("scope 0 of a new object", () -> x.release(0));
        Check.badArgument("scope 1 of a new object", () -> x.release(1));
        x.child(0);
        x.child(0);
        Check.badArguments("scope", 1, 2, scope -> x.release(scope));
        Check.is("the last one", x.release(2), 0);
        Check.is("the first one", x.release(1), 0);
        Check.badArgument("0, when all others are released", () -> x.release(0));
        Check.is("scope 0 is locked", x.loader(0, false), 0);
        Check.is("and holds the root", x.look(0, 2), 2);
    }

    // "IllegalStateException when it is released"
    private static void releaseOnce() {
        ScopeTree x = new ScopeTree();
        child(x, 0, true, false, false);
        child(x, 0, true, false, false);
        child(x, 0, true, false, false);
        x.lock(1);
        x.lock(2);
        Check.is("open", x.release(3), 0);
        Check.badState("released when open", () -> x.release(3));
        Check.is("locked", x.release(1), 0);
        Check.badState("released when locked", () -> x.release(1));
        looks(x, 1, 1, 0, 3);
        Check.is("the last one that holds it", x.release(2), 1);
        Check.badState("again", () -> x.release(2));
    }

    // "(no child of it may be there that is not released)", "or a child is not"
    private static void releaseBehindTheChildren() {
        ScopeTree x = new ScopeTree();
        child(x, 0, true, true, true);
        x.child(1);
        x.child(1);
        x.child(2);
        Check.badState("open, with open children", () -> x.release(1));
        x.lock(1);
        Check.badState("locked, with open children", () -> x.release(1));
        x.lock(2);
        x.lock(3);
        Check.badState("locked, with locked children", () -> x.release(1));
        x.release(3);
        Check.badState("one child of two is left", () -> x.release(1));
        Check.badState("a child with a child", () -> x.release(2));
        Check.is("it is locked as before", x.loader(1, false), 3);
        Check.is("so is its child", x.loader(2, false), 2);
        x.release(4);
        x.release(2);
        Check.is("no child is left", x.release(1), 3);
    }

    // "Releases a scope: how many loaders are gone by that."
    private static void releaseTellsHowManyAreGone() {
        ScopeTree x = new ScopeTree();
        x.child(0);
        Check.is("none, an open one", x.release(1), 0);
        child(x, 0, true, true, true);
        Check.is("none, an open one with paths and a filter", x.release(2), 0);
        x.child(0);
        x.lock(3);
        Check.is("none, one without loaders of its own", x.release(3), 0);
        x.lock(child(x, 0, true, true, true));
        x.lock(child(x, 0, true, true, true));
        Check.is("none, they are held by another scope", x.release(4), 0);
        x.lock(child(x, 0, true, true, false));
        Check.is("one, the local loader", x.release(5), 1);
        x.lock(child(x, 0, true, false, false));
        Check.is("one, the filtering loader", x.release(6), 1);
        Check.is("one, E", x.release(7), 1);
        x.lock(child(x, 0, true, false, true));
        Check.is("two", x.release(8), 2);
        x.lock(child(x, 0, true, true, true));
        Check.is("three", x.release(9), 3);
    }

    // "One that is held by none is gone, and so on for its parent; its classes are GONE."
    private static void goneUpToTheFirstThatIsHeld() {
        ScopeTree x = new ScopeTree();
        x.file(0, 8, 0, 0);
        x.file(1, 9, 8, 0);
        x.lock(child(x, 0, true, false, false));
        x.lock(child(x, 0, true, false, true));
        int upper = x.load(1, 8);
        int lower = x.load(2, 9);
        Check.is("its super is the upper one's", x.info(lower, 3), upper);
        looks(x, 1, 1, 0, 6);
        Check.is("the lower loader alone", x.release(2), 1);
        Check.is("its class is gone", x.info(lower, 1), -1);
        Check.is("that of its parent is not", x.info(upper, 1), 1);
        looks(x, 1, 1, 0, 3);
        Check.is("then the upper one", x.release(1), 1);
        Check.is("its class is gone, too", x.info(upper, 1), -1);
        Check.is("the root is never gone", x.look(0, 2), 2);
        Check.is("nor are the platform's classes", x.info(0, 1), 0);
    }

    // "IllegalArgumentException when there is no such scope"
    private static void loaderOfAScopeThatIsThere() {
        ScopeTree x = new ScopeTree();
        x.child(0);
        Check.badArguments("scope, export", 0, 1, scope -> x.loader(scope, true));
        Check.badArguments("scope, local", 0, 1, scope -> x.loader(scope, false));
        Check.is("the last one", x.loader(1, true), -1);
    }

    // "-1 when it is not locked, or released"
    private static void loaderWhileLocked() {
        ScopeTree x = new ScopeTree();
        child(x, 0, true, true, true);
        child(x, 0, true, true, true);
        x.release(2);
        for (boolean export : new boolean[] {false, true}) {
            Check.is("scope 0", x.loader(0, export), 0);
            Check.is("open", x.loader(1, export), -1);
            Check.is("released when open", x.loader(2, export), -1);
        }
        x.lock(1);
        Check.is("locked, local", x.loader(1, false), 3);
        Check.is("locked, export", x.loader(1, true), 2);
        x.release(1);
        Check.is("released, local", x.loader(1, false), -1);
        Check.is("released, export", x.loader(1, true), -1);
    }

    // "-1 when there is none"
    private static void lookAtLoadersThatAreThere() {
        ScopeTree x = new ScopeTree();
        x.lock(child(x, 0, true, true, false));
        x.lock(child(x, 0, true, true, true));
        x.release(2);
        for (int what = 0; what < 4; what++) {
            for (int loader : Check.outside(0, 40)) {
                Check.is("loader " + loader + ", what " + what, x.look(loader, what), -1);
            }
            Check.is("one that was never there, what " + what, x.look(40, what), -1);
            Check.is("one that is gone, what " + what, x.look(3, what), -1);
        }
        looks(x, 2, 2, 1, 1);
    }

    // "-1 .. for another what"
    private static void lookForAnotherWhat() {
        ScopeTree x = new ScopeTree();
        x.lock(child(x, 0, true, true, true));
        for (int what : Check.outside(0, 3)) {
            for (int loader = -1; loader <= 4; loader++) {
                Check.is("loader " + loader + ", what " + what, x.look(loader, what), -1);
            }
        }
    }

    // "0 its kind (0 ROOT ..), 1 its parent (-1 for ROOT)", "scope 0 twice"
    private static void lookAtTheRoot() {
        ScopeTree x = new ScopeTree();
        looks(x, 0, 0, -1, 2);
        x.load(0, 0);
        x.load(0, 7);
        Check.is("it has defined none", x.look(0, 3), 0);
    }

    // "how many hold it (loaders and scopes, these once for each of E, export and local loader that it is .."
    private static void lookAtHolders() {
        ScopeTree x = new ScopeTree();
        x.child(0);
        x.child(0);
        Check.is("open scopes hold none", x.look(0, 2), 2);
        x.lock(1);
        Check.is("all three of a scope", x.look(0, 2), 5);
        x.lock(2);
        Check.is("all three of two scopes", x.look(0, 2), 8);
        x.lock(child(x, 0, false, true, false));
        Check.is("E, local loader and a loader", x.look(0, 2), 11);
        x.lock(child(x, 0, false, false, true));
        Check.is("E, export loader and a loader", x.look(0, 2), 14);
        x.lock(child(x, 0, false, true, true));
        Check.is("E alone, both loaders are there", x.look(0, 2), 15);
        looks(x, 1, 2, 0, 2);
        looks(x, 2, 1, 0, 2);
        x.lock(child(x, 3, false, false, false));
        looks(x, 1, 2, 0, 5);
        x.release(6);
        looks(x, 1, 2, 0, 2);
        x.release(5);
        looks(x, 1, 2, 0, 1);
        Check.is("released scopes hold none", x.look(0, 2), 14);
    }

    // "3 how many classes it has defined"
    private static void lookAtDefinedClasses() {
        ScopeTree x = new ScopeTree();
        for (int i = 0; i < 8; i++) {
            x.file(0, 8 + i, i == 0 ? 0 : 7 + i, 0);
        }
        x.file(1, 16, 15, 0);
        x.file(1, 17, 63, 0);
        x.lock(child(x, 0, true, true, true));
        Check.is("none yet", x.look(1, 3), 0);
        x.load(1, 8);
        Check.is("one", x.look(1, 3), 1);
        x.load(1, 8);
        Check.is("not anew", x.look(1, 3), 1);
        Check.refused("no super", () -> x.load(1, 17));
        Check.is("what is refused does not count", x.look(3, 3), 0);
        x.load(1, 16);
        Check.is("all with its supers", x.look(1, 3), 8);
        Check.is("its own", x.look(3, 3), 1);
        Check.is("a filtering one none", x.look(2, 3), 0);
    }
}
