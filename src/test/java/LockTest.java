/** Promises 8 to 11: lock, release, loader, look. */
public final class LockTest {
    public static void main(String[] args) {
        threeLoadersInOrder();
        emptyPathsTakeTheParents();
        emptyArchiveIsNoEmptyPath();
        alikeIsShared();
        oneDifferenceIsNotShared();
        loadersKeepTheirFiles();
        filtersAreShared();
        localMayBeAnothersExport();
        wrongLocks();
        mostLoaders();
        releaseCounts();
        sharedLoadersStay();
        leastFreeNumber();
        wrongReleases();
        loaderOfAScope();
        lookAtAll();
        Check.end();
    }

    private static void threeLoadersInOrder() {
        ScopeTree x = new ScopeTree();
        x.file(0, 8, 0, 0);
        x.file(1, 9, 0, 0);
        x.child(0);
        x.add(1, 0, true);
        x.add(1, 1, false);
        x.filter(1, 255, 0, 0);
        Check.is("local", x.lock(1), 3);
        Check.is("export", x.loader(1, true), 2);
        Check.is("local", x.loader(1, false), 3);
        look(x, 1, 1, 0, 3);
        look(x, 2, 2, 1, 1);
        look(x, 3, 1, 1, 1);
        Check.is("root", x.look(0, 2), 3);
    }

    private static void look(ScopeTree x, int loader, int kind, int parent, int holders) {
        Check.is("kind of " + loader, x.look(loader, 0), kind);
        Check.is("parent of " + loader, x.look(loader, 1), parent);
        Check.is("holders of " + loader, x.look(loader, 2), holders);
    }

    private static void emptyPathsTakeTheParents() {
        ScopeTree x = new ScopeTree();
        x.child(0);
        Check.is("local", x.lock(1), 0);
        Check.is("export", x.loader(1, true), 0);
        Check.is("root", x.look(0, 2), 5);
        x.child(1);
        x.filter(2, 255, 0, 0);
        Check.is("a filter alone", x.lock(2), 0);
        Check.is("its export loader", x.loader(2, true), 1);
        look(x, 1, 2, 0, 1);
        Check.is("root", x.look(0, 2), 8);
        x.child(2);
        x.add(3, 0, false);
        Check.is("a local path alone", x.lock(3), 2);
        Check.is("its export loader", x.loader(3, true), 1);
        look(x, 1, 2, 0, 4);
        look(x, 2, 1, 1, 1);
    }

    private static void emptyArchiveIsNoEmptyPath() {
        ScopeTree x = new ScopeTree();
        x.child(0);
        x.add(1, 0, true);
        Check.is("a loader of its own", x.lock(1), 1);
        x.child(0);
        x.add(2, 9, true);
        Check.is("empty archives are alike", x.lock(2), 1);
        x.child(0);
        x.add(3, 0, true);
        x.add(3, 1, true);
        Check.is("as many count", x.lock(3), 2);
    }

    private static void alikeIsShared() {
        ScopeTree x = new ScopeTree();
        x.file(0, 8, 0, 1);
        x.file(0, 9, 8, 2);
        x.descriptor(0, 1, 8);
        x.descriptor(0, 2, 9);
        x.descriptor(1, 2, 9);
        x.descriptor(1, 1, 8);
        x.file(1, 9, 8, 2);
        x.file(1, 8, 0, 1);
        x.child(0);
        x.add(1, 0, true);
        x.child(0);
        x.add(2, 1, true);
        Check.is("one", x.lock(1), 1);
        Check.is("the other", x.lock(2), 1);
        look(x, 1, 1, 0, 6);
        Check.is("class", x.load(1, 9), 9);
        Check.is("the same class", x.load(2, 9), 9);
        x.child(1);
        x.add(3, 0, true);
        Check.is("another parent", x.lock(3), 2);
        Check.is("another class", x.load(3, 9), 11);
        Check.no("told apart", x.isA(11, 9));
    }

    private static void oneDifferenceIsNotShared() {
        for (int difference = 0; difference < 6; difference++) {
            ScopeTree x = new ScopeTree();
            for (int archive = 0; archive < 2; archive++) {
                x.file(archive, 8, 0, 1);
                x.descriptor(archive, 1, 8);
            }
            differ(x, difference);
            x.child(0);
            x.add(1, 0, true);
            x.child(0);
            x.add(2, 1, true);
            Check.is("one", x.lock(1), 1);
            Check.is("the other, difference " + difference, x.lock(2), 2);
        }
    }

    private static void differ(ScopeTree x, int difference) {
        switch (difference) {
            case 0 -> x.file(1, 8, 1, 1);
            case 1 -> x.file(1, 8, 0, 2);
            case 2 -> x.file(1, 9, 0, 1);
            case 3 -> x.descriptor(1, 1, 9);
            case 4 -> x.descriptor(1, 2, 8);
            default -> {
                x.wipe(1);
                x.file(1, 9, 0, 1);
                x.descriptor(1, 1, 8);
            }
        }
    }

    private static void loadersKeepTheirFiles() {
        ScopeTree x = new ScopeTree();
        x.file(0, 8, 0, 1);
        x.child(0);
        x.add(1, 0, true);
        x.child(0);
        x.add(2, 0, true);
        x.child(0);
        x.add(3, 1, true);
        x.lock(1);
        x.file(0, 8, 0, 2);
        Check.is("changed since", x.lock(2), 2);
        x.file(1, 8, 0, 1);
        Check.is("alike to what the loader has", x.lock(3), 1);
        Check.is("as it was", x.info(x.load(1, 8), 2), 1);
        Check.is("as it was at the lock", x.info(x.load(2, 8), 2), 2);
    }

    private static void filtersAreShared() {
        ScopeTree x = new ScopeTree();
        for (int i = 1; i <= 5; i++) {
            x.child(0);
        }
        x.filter(1, 2, 4, 8);
        x.filter(2, 2, 4, 8);
        x.filter(3, 3, 4, 8);
        x.filter(4, 2, 5, 8);
        x.filter(5, 2, 4, 9);
        for (int i = 1; i <= 5; i++) {
            Check.is("local", x.lock(i), 0);
        }
        Check.is("one", x.loader(1, true), 1);
        Check.is("the same", x.loader(2, true), 1);
        Check.is("other packages", x.loader(3, true), 2);
        Check.is("others allowed", x.loader(4, true), 3);
        Check.is("others denied", x.loader(5, true), 4);
        look(x, 1, 2, 0, 2);
        x.child(1);
        x.filter(6, 2, 4, 8);
        x.lock(6);
        Check.is("another parent", x.loader(6, true), 5);
        look(x, 5, 2, 1, 1);
    }

    private static void localMayBeAnothersExport() {
        ScopeTree x = new ScopeTree();
        x.file(0, 8, 0, 0);
        x.child(0);
        x.add(1, 0, false);
        x.child(0);
        x.add(2, 0, true);
        Check.is("as a local loader", x.lock(1), 1);
        Check.is("as an export loader", x.lock(2), 1);
        look(x, 1, 1, 0, 4);
        x.child(0);
        x.add(3, 0, true);
        x.add(3, 0, false);
        Check.is("both paths of a scope", x.lock(3), 2);
        look(x, 1, 1, 0, 7);
        look(x, 2, 1, 1, 1);
    }

    private static void wrongLocks() {
        ScopeTree x = new ScopeTree();
        x.child(0);
        x.child(1);
        Check.badArgument("scope -1", () -> x.lock(-1));
        Check.badArgument("scope 3", () -> x.lock(3));
        Check.badState("scope 0", () -> x.lock(0));
        Check.badState("open parent", () -> x.lock(2));
        Check.is("parent", x.lock(1), 0);
        Check.badState("locked", () -> x.lock(1));
        Check.is("child", x.lock(2), 0);
        x.release(2);
        Check.badState("released", () -> x.lock(2));
    }

    private static void mostLoaders() {
        ScopeTree x = new ScopeTree();
        for (int scope = 1; scope < 12; scope++) {
            x.child(scope - 1);
            x.add(scope, 0, true);
            x.add(scope, 0, false);
            x.filter(scope, 255, 0, 0);
            Check.is("local", x.lock(scope), 3 * scope);
        }
        Check.is("the last", x.look(33, 0), 1);
        Check.is("none behind it", x.look(34, 0), -1);
        for (int scope = 11; scope > 0; scope--) {
            Check.is("gone", x.release(scope), 3);
        }
        Check.is("root", x.look(0, 2), 2);
    }

    private static void releaseCounts() {
        ScopeTree x = new ScopeTree();
        x.file(0, 8, 0, 0);
        x.file(1, 9, 8, 0);
        x.child(0);
        x.add(1, 0, true);
        x.add(1, 1, false);
        x.lock(1);
        x.load(1, 9);
        Check.is("its loader", x.info(9, 1), 2);
        Check.is("both are gone", x.release(1), 2);
        Check.is("loader 1", x.look(1, 0), -1);
        Check.is("loader 2", x.look(2, 2), -1);
        Check.is("root", x.look(0, 2), 2);
        Check.is("its class is gone", x.info(9, 1), -1);
        Check.is("and its super", x.info(8, 1), -1);
        Check.is("it keeps its name", x.info(9, 0), 9);
        Check.is("it keeps its super", x.info(9, 3), 8);
        x.child(0);
        Check.is("one that is open", x.release(2), 0);
        x.child(0);
        x.lock(3);
        Check.is("one without loaders of its own", x.release(3), 0);
        Check.is("root", x.look(0, 2), 2);
    }

    private static void sharedLoadersStay() {
        ScopeTree x = new ScopeTree();
        x.file(0, 8, 0, 0);
        x.file(1, 9, 8, 0);
        x.child(0);
        x.add(1, 0, true);
        x.child(0);
        x.add(2, 0, true);
        x.add(2, 1, false);
        x.lock(1);
        x.lock(2);
        look(x, 1, 1, 0, 6);
        Check.is("only the local loader", x.release(2), 1);
        look(x, 1, 1, 0, 3);
        Check.is("class", x.load(1, 8), 8);
        Check.is("still there", x.info(8, 1), 1);
        Check.is("the last one", x.release(1), 1);
        Check.is("gone", x.info(8, 1), -1);
    }

    private static void leastFreeNumber() {
        ScopeTree x = new ScopeTree();
        for (int archive = 0; archive < 5; archive++) {
            x.file(archive, 8 + archive, 0, 0);
            x.child(0);
            x.add(archive + 1, archive, true);
        }
        Check.is("one", x.lock(1), 1);
        Check.is("two", x.lock(2), 2);
        Check.is("three", x.lock(3), 3);
        int old = x.load(2, 9);
        x.release(2);
        Check.is("the gap", x.lock(4), 2);
        Check.is("next", x.lock(5), 4);
        Check.is("a new loader has no old class", x.look(2, 3), 0);
        Check.is("a gone class stays gone", x.info(old, 1), -1);
        Check.missing("nor its files", () -> x.load(4, 9));
    }

    private static void wrongReleases() {
        ScopeTree x = new ScopeTree();
        x.child(0);
        x.child(1);
        Check.badArgument("scope -1", () -> x.release(-1));
        Check.badArgument("scope 3", () -> x.release(3));
        Check.badArgument("scope 0, also with children", () -> x.release(0));
        Check.badState("an open child", () -> x.release(1));
        x.lock(1);
        x.lock(2);
        Check.badState("a locked child", () -> x.release(1));
        Check.is("the child", x.release(2), 0);
        Check.badState("released", () -> x.release(2));
        Check.is("then the parent", x.release(1), 0);
        Check.badArgument("scope 0", () -> x.release(0));
    }

    private static void loaderOfAScope() {
        ScopeTree x = new ScopeTree();
        x.child(0);
        x.add(1, 0, true);
        Check.is("open, local", x.loader(1, false), -1);
        Check.is("open, export", x.loader(1, true), -1);
        x.lock(1);
        Check.is("locked", x.loader(1, true), 1);
        x.release(1);
        Check.is("released, local", x.loader(1, false), -1);
        Check.is("released, export", x.loader(1, true), -1);
        Check.badArgument("scope -1", () -> x.loader(-1, true));
        Check.badArgument("scope 2", () -> x.loader(2, false));
    }

    private static void lookAtAll() {
        ScopeTree x = new ScopeTree();
        x.file(0, 8, 0, 0);
        x.file(0, 9, 8, 0);
        x.child(0);
        x.add(1, 0, true);
        x.lock(1);
        Check.is("defined none", x.look(1, 3), 0);
        x.load(1, 9);
        Check.is("defined two", x.look(1, 3), 2);
        x.load(1, 8);
        Check.is("not anew", x.look(1, 3), 2);
        Check.is("another what", x.look(1, 4), -1);
        Check.is("what -1", x.look(1, -1), -1);
        Check.is("loader -1", x.look(-1, 0), -1);
        Check.is("loader 2", x.look(2, 0), -1);
        Check.is("loader 40", x.look(40, 0), -1);
        Check.is("loader 41", x.look(41, 0), -1);
        Check.is("greatest loader", x.look(Integer.MAX_VALUE, 0), -1);
    }
}
