/**
 * The edges of scopes, class paths and filters, and of promises 5 to 7. Each method has the
 * document's sentence above it.
 */
public final class ScopeSetupEdgesTest {
    public static void main(String[] args) {
        atMostTwelveScopes();
        numbersAreNotGivenAnew();
        parentsThatAreThere();
        releasedParents();
        atMostFourInAPath();
        noneTwiceInAPath();
        pathsAreAlikeByTheirPlaces();
        pathsOfAsMany();
        addToAScopeThatIsThere();
        addWhileOpen();
        packagesAreEightBits();
        packagesOfNames();
        eachNameHasABit();
        whatAFilterAdmits();
        emptyAndFullFilters();
        filterOfAScopeThatIsThere();
        filterWhileOpen();
        filterIsSetAnew();
        Check.end();
    }

    // "SCOPES 0, 1, .., at most 12", "A new scope: its number", "IllegalStateException when there are 12"
    private static void atMostTwelveScopes() {
        ScopeTree x = new ScopeTree();
        for (int i = 1; i < 12; i++) {
            Check.is("scope", x.child(0), i);
        }
        for (int parent = 0; parent < 12; parent++) {
            int p = parent;
            Check.badState("one more under " + parent, () -> x.child(p));
        }
        Check.is("scope 11 can be locked", x.lock(11), 0);
        Check.badArguments("scope", 0, 11, scope -> x.loader(scope, true));
    }

    // "(numbers are not given anew)"
    private static void numbersAreNotGivenAnew() {
        ScopeTree x = new ScopeTree();
        for (int i = 1; i < 11; i++) {
            Check.is("scope", x.child(0), i);
        }
        for (int i = 1; i < 11; i++) {
            x.release(i);
        }
        Check.is("the twelfth, behind ten that are released", x.child(0), 11);
        Check.badState("a thirteenth, though ten are released", () -> x.child(0));
        x.release(11);
        Check.badState("a thirteenth, though all are released", () -> x.child(0));
    }

    // "IllegalArgumentException when there is no such parent"
    private static void parentsThatAreThere() {
        ScopeTree x = new ScopeTree();
        Check.badArguments("parent of the first", 0, 0, parent -> x.child(parent));
        Check.is("the refused took no number", x.child(0), 1);
        Check.badArguments("parent of the second", 0, 1, parent -> x.child(parent));
        Check.is("under the last one", x.child(1), 2);
    }

    // "or it is released": an open and a locked one are not.
    private static void releasedParents() {
        ScopeTree x = new ScopeTree();
        x.child(0);
        x.child(0);
        x.child(0);
        x.lock(2);
        Check.is("under an open one", x.child(1), 4);
        Check.is("under a locked one", x.child(2), 5);
        x.release(3);
        Check.badArgument("under one released when open", () -> x.child(3));
        x.release(5);
        x.release(2);
        Check.badArgument("under one released when locked", () -> x.child(2));
        Check.is("the refused took no number", x.child(0), 6);
    }

    private static void oneFileEach(ScopeTree x) {
        for (int archive = 0; archive < 10; archive++) {
            x.file(archive, 8 + archive, 0, archive);
        }
    }

    // "A CLASS PATH is a row of archives, at most 4", "false when .. that has 4"
    private static void atMostFourInAPath() {
        for (boolean export : new boolean[] {false, true}) {
            ScopeTree x = new ScopeTree();
            oneFileEach(x);
            x.child(0);
            for (int archive = 0; archive < 4; archive++) {
                Check.yes("archive " + archive, x.add(1, archive, export));
            }
            for (int archive = 0; archive < 10; archive++) {
                Check.no("a fifth, archive " + archive, x.add(1, archive, export));
            }
            Check.yes("the other path has room of its own", x.add(1, 9, !export));
            x.lock(1);
            for (int archive = 0; archive < 4; archive++) {
                Check.is("class of archive " + archive, x.info(x.load(1, 8 + archive), 2), archive);
            }
            for (int archive = 4; archive < 9; archive++) {
                int name = 8 + archive;
                Check.missing("class of archive " + archive, () -> x.load(1, name));
            }
            Check.is("class of the other path", x.info(x.load(1, 17), 2), 9);
        }
    }

    // "none twice", "false when it is in that path"
    private static void noneTwiceInAPath() {
        for (boolean export : new boolean[] {false, true}) {
            ScopeTree x = new ScopeTree();
            x.child(0);
            x.child(0);
            for (int archive = 0; archive < 3; archive++) {
                Check.yes("archive " + archive, x.add(1, archive, export));
                for (int there = 0; there <= archive; there++) {
                    Check.no("archive " + there + " twice", x.add(1, there, export));
                }
            }
            Check.yes("a refused one took no place", x.add(1, 9, export));
            Check.no("it is in that path, which has 4", x.add(1, 9, export));
            Check.yes("in the other path", x.add(1, 0, !export));
            Check.no("twice in the other path", x.add(1, 0, !export));
            Check.yes("in another scope", x.add(2, 0, export));
        }
    }

    private static int lockedWith(ScopeTree x, int... archives) {
        int scope = x.child(0);
        for (int archive : archives) {
            x.add(scope, archive, true);
        }
        return x.lock(scope);
    }

    // "two are alike if they have as many, each alike to the one at its place"
    private static void pathsAreAlikeByTheirPlaces() {
        ScopeTree x = new ScopeTree();
        for (int archive = 0; archive < 8; archive++) {
            x.file(archive, 8 + archive % 4, 0, 0);
        }
        Check.is("four archives", lockedWith(x, 0, 1, 2, 3), 1);
        Check.is("four others, alike", lockedWith(x, 4, 5, 6, 7), 1);
        Check.is("some of both", lockedWith(x, 4, 1, 6, 3), 1);
        Check.is("the last two changed about", lockedWith(x, 0, 1, 3, 2), 2);
        Check.is("the first two changed about", lockedWith(x, 1, 0, 2, 3), 3);
        Check.is("another at the last place", lockedWith(x, 0, 1, 2, 8), 4);
        Check.is("another at the first place", lockedWith(x, 8, 1, 2, 3), 5);
        Check.is("two alike ones", lockedWith(x, 0, 4), 6);
        Check.is("these changed about", lockedWith(x, 4, 0), 6);
    }

    // "if they have as many"
    private static void pathsOfAsMany() {
        ScopeTree x = new ScopeTree();
        oneFileEach(x);
        Check.is("two", lockedWith(x, 0, 1), 1);
        Check.is("one less", lockedWith(x, 0), 2);
        Check.is("the other one", lockedWith(x, 1), 3);
        Check.is("one more", lockedWith(x, 0, 1, 2), 4);
        Check.is("four", lockedWith(x, 0, 1, 2, 3), 5);
        Check.is("none is the parent's loader", lockedWith(x), 0);
        Check.is("two again", lockedWith(x, 0, 1), 1);
        x.wipe(4);
        x.wipe(5);
        Check.is("one empty archive", lockedWith(x, 4), 6);
        Check.is("two empty archives", lockedWith(x, 4, 5), 7);
        Check.is("one that has none behind it", lockedWith(x, 0, 4), 8);
    }

    // "IllegalArgumentException when there is no such scope or archive"
    private static void addToAScopeThatIsThere() {
        ScopeTree x = new ScopeTree();
        x.child(0);
        x.child(0);
        Check.badArguments("scope", 0, 2, scope -> x.add(scope, 0, true));
        Check.badArguments("scope, local path", 0, 2, scope -> x.add(scope, 0, false));
        Check.yes("the last scope", x.add(2, 0, true));
        Check.yes("it has no such archive by the refused", x.add(2, 0, false));
    }

    // "IllegalStateException when it is locked or released"
    private static void addWhileOpen() {
        ScopeTree x = new ScopeTree();
        for (int i = 1; i <= 3; i++) {
            x.child(0);
        }
        x.add(1, 0, true);
        x.lock(1);
        x.lock(2);
        x.release(2);
        x.release(3);
        for (boolean export : new boolean[] {false, true}) {
            Check.badState("scope 0", () -> x.add(0, 0, export));
            Check.badState("locked, an archive that is in a path", () -> x.add(1, 0, export));
            Check.badState("locked, another archive", () -> x.add(1, 1, export));
            Check.badState("released when locked", () -> x.add(2, 0, export));
            Check.badState("released when open", () -> x.add(3, 0, export));
        }
    }

    // "packages is not 0 .. 255"
    private static void packagesAreEightBits() {
        ScopeTree x = new ScopeTree();
        x.child(0);
        x.child(0);
        Check.badArguments("packages", 0, 255, packages -> x.filter(1, packages, 0, 0));
        x.lock(1);
        Check.is("none was set", x.loader(1, true), 0);
        x.filter(2, 0, 0, 0);
        x.filter(2, 255, 0, 0);
        Check.badArguments("packages of one that has a filter", 0, 255, packages -> x.filter(2, packages, 0, 0));
        x.lock(2);
        x.child(0);
        x.filter(3, 255, 0, 0);
        x.lock(3);
        Check.is("it has the filter that it had", x.loader(3, true), x.loader(2, true));
    }

    /** Scope 2 sees the named classes through the filter alone. */
    private static ScopeTree through(int packages, long allowed, long denied, int... names) {
        ScopeTree x = new ScopeTree();
        for (int i = 0; i < names.length; i++) {
            x.file(i / 8, names[i], 0, 0);
        }
        x.child(0);
        for (int archive = 0; archive < 4; archive++) {
            x.add(1, archive, true);
        }
        x.filter(1, packages, allowed, denied);
        x.lock(1);
        x.child(1);
        x.lock(2);
        return x;
    }

    private static void admits(String what, ScopeTree x, int name, boolean due) {
        if (due) {
            Check.is(what + ": name " + name, x.info(x.load(2, name), 0), name);
        } else {
            Check.missing(what + ": name " + name, () -> x.load(2, name));
        }
    }

    // "the PACKAGE of c is c >> 3", "a set of packages (bits 0 .. 7)"
    private static void packagesOfNames() {
        for (int p = 1; p < 8; p++) {
            int first = 8 * p;
            int before = p == 1 ? 63 : first - 1;
            int behind = p == 7 ? 8 : first + 8;
            ScopeTree x = through(1 << p, 0, 0, first, first + 7, before, behind);
            admits("package " + p, x, first, true);
            admits("package " + p, x, first + 7, true);
            admits("package " + p, x, before, false);
            admits("package " + p, x, behind, false);
            ScopeTree y = through(255 ^ 1 << p, 0, 0, first, first + 7, before, behind);
            admits("all but package " + p, y, first, false);
            admits("all but package " + p, y, first + 7, false);
            admits("all but package " + p, y, before, true);
            admits("all but package " + p, y, behind, true);
        }
        ScopeTree z = through(1, 0, 0, 8, 63);
        admits("package 0", z, 8, false);
        admits("package 0", z, 63, false);
        admits("package 0", z, 7, true);
    }

    // "two sets of names (bits 0 .. 63)": no bit stands for another name, 32 or 64 apart or beside it.
    private static void eachNameHasABit() {
        for (int name = 8; name < 64; name++) {
            int before = name == 8 ? 63 : name - 1;
            int behind = name == 63 ? 8 : name + 1;
            int apart = name < 32 ? name + 32 : name - 32 < 8 ? 20 : name - 32;
            ScopeTree x = through(0, 1L << name, 0, name, before, behind, apart);
            admits("allowed alone", x, name, true);
            ScopeTree y = through(255, 0, 1L << name, name, before, behind, apart);
            admits("denied alone", y, name, false);
            for (int other : new int[] {before, behind, apart}) {
                admits("allowed " + name, x, other, false);
                admits("denied " + name, y, other, true);
            }
        }
    }

    // "it ADMITS a name that is not denied, and is allowed or of one of its packages"
    private static void whatAFilterAdmits() {
        for (int name : new int[] {8, 31, 32, 63}) {
            for (int sets = 0; sets < 8; sets++) {
                boolean isDenied = (sets & 1) != 0;
                boolean isAllowed = (sets & 2) != 0;
                boolean isOfPackage = (sets & 4) != 0;
                ScopeTree x = through(isOfPackage ? 1 << (name >> 3) : 0, isAllowed ? 1L << name : 0,
                        isDenied ? 1L << name : 0, name);
                admits("sets " + sets, x, name, !isDenied && (isAllowed || isOfPackage));
            }
        }
    }

    // The sets may be empty or full.
    private static void emptyAndFullFilters() {
        int[] names = {8, 31, 32, 63};
        for (int name : names) {
            admits("all empty", through(0, 0, 0, names), name, false);
            admits("all packages", through(255, 0, 0, names), name, true);
            admits("all allowed", through(0, -1L, 0, names), name, true);
            admits("all of both", through(255, -1L, 0, names), name, true);
            admits("all of both, all denied", through(255, -1L, -1L, names), name, false);
            admits("all denied", through(0, 0, -1L, names), name, false);
        }
        for (int name = 0; name < 8; name++) {
            admits("the platform's, nothing admitted", through(0, 0, 0, names), name, true);
            admits("the platform's, all denied", through(0, 0, -1L, names), name, true);
        }
        ScopeTree x = new ScopeTree();
        x.child(0);
        x.filter(1, 0, 0, 0);
        Check.is("the local loader is not filtered", x.lock(1), 0);
        Check.is("an empty filter is one", x.look(x.loader(1, true), 0), 2);
    }

    // "IllegalArgumentException when there is no such scope"
    private static void filterOfAScopeThatIsThere() {
        ScopeTree x = new ScopeTree();
        x.child(0);
        x.child(0);
        Check.badArguments("scope", 0, 2, scope -> x.filter(scope, 0, 0, 0));
        x.filter(2, 0, 0, 0);
        x.lock(1);
        x.lock(2);
        Check.is("the other has none", x.loader(1, true), 0);
        Check.is("the last scope has one", x.loader(2, true), 1);
    }

    // "IllegalStateException when it is locked or released"
    private static void filterWhileOpen() {
        ScopeTree x = new ScopeTree();
        for (int i = 1; i <= 3; i++) {
            x.child(0);
        }
        x.lock(1);
        x.lock(2);
        x.release(2);
        x.release(3);
        Check.badState("scope 0", () -> x.filter(0, 255, 0, 0));
        Check.badState("locked", () -> x.filter(1, 255, 0, 0));
        Check.badState("released when locked", () -> x.filter(2, 0, 0, 0));
        Check.badState("released when open", () -> x.filter(3, 0, 0, 0));
        Check.is("scope 0 has no filter", x.loader(0, true), 0);
        Check.is("nor has the locked one", x.loader(1, true), 0);
    }

    // "Sets a scope's filter": the last one is its filter.
    private static void filterIsSetAnew() {
        ScopeTree x = new ScopeTree();
        x.child(0);
        x.child(0);
        x.filter(1, 1, 2, 4);
        x.filter(1, 255, -1L, 1L << 63);
        x.filter(2, 255, -1L, 1L << 63);
        x.lock(1);
        x.lock(2);
        Check.is("one loader for both", x.loader(1, true), 1);
        Check.is("the same filter", x.loader(2, true), 1);
        Check.is("held by both", x.look(1, 2), 2);
    }
}
