/** Promises 12 to 14: load, info, isA. */
public final class LoadTest {
    public static void main(String[] args) {
        supersComeFirst();
        theParentComesLast();
        supersAreFoundFromTheDefiner();
        aFilterStopsASuper();
        circles();
        linkErrors();
        eightInOneAnother();
        nineInOneAnother();
        depthGoesThroughLoaders();
        mostClasses();
        wrongLoads();
        infoOfAll();
        kinds();
        Check.end();
    }

    /** A scope under parent, locked, with one archive as its export path. */
    private static int locked(ScopeTree x, int parent, int archive) {
        int scope = x.child(parent);
        x.add(scope, archive, true);
        x.lock(scope);
        return scope;
    }

    private static void supersComeFirst() {
        ScopeTree x = new ScopeTree();
        x.file(0, 20, 30, 1);
        x.file(0, 30, 40, 2);
        x.file(0, 40, 5, 3);
        locked(x, 0, 0);
        Check.is("load", x.load(1, 20), 10);
        Check.is("the super", x.load(1, 30), 9);
        Check.is("its super", x.load(1, 40), 8);
        Check.is("again", x.load(1, 20), 10);
        Check.is("platform", x.load(1, 5), 5);
        Check.is("name", x.info(10, 0), 20);
        Check.is("loader", x.info(10, 1), 1);
        Check.is("version", x.info(10, 2), 1);
        Check.is("super", x.info(10, 3), 9);
        Check.is("super of the first", x.info(8, 3), 5);
    }

    private static void theParentComesLast() {
        ScopeTree x = new ScopeTree();
        x.file(0, 8, 0, 1);
        x.file(0, 9, 8, 1);
        x.file(1, 8, 0, 2);
        locked(x, 0, 0);
        locked(x, 1, 1);
        Check.is("its own", x.load(2, 8), 8);
        Check.is("version", x.info(8, 2), 2);
        Check.is("the parent's", x.load(2, 9), 10);
        Check.is("its super is the parent's", x.info(10, 3), 9);
        Check.is("defined by the parent", x.info(9, 1), 1);
        Check.is("from the parent", x.load(1, 8), 9);
    }

    private static void supersAreFoundFromTheDefiner() {
        ScopeTree x = new ScopeTree();
        x.file(0, 9, 8, 1);
        x.file(1, 8, 0, 2);
        locked(x, 0, 0);
        locked(x, 1, 1);
        Check.refused("the child's class is no super for the parent's", () -> x.load(2, 9));
        Check.is("the child's class itself", x.load(2, 8), 8);
    }

    private static void aFilterStopsASuper() {
        ScopeTree x = new ScopeTree();
        x.file(0, 8, 0, 1);
        x.file(1, 9, 8, 1);
        x.child(0);
        x.add(1, 0, true);
        x.filter(1, 0, 1L << 20, 0);
        x.lock(1);
        locked(x, 1, 1);
        Check.refused("the super is not admitted", () -> x.load(2, 9));
        Check.missing("as itself it is just not found", () -> x.load(2, 8));
        Check.missing("no class came", () -> x.info(8, 0));
    }

    private static void circles() {
        ScopeTree x = new ScopeTree();
        x.file(0, 8, 8, 0);
        x.file(0, 9, 10, 0);
        x.file(0, 10, 11, 0);
        x.file(0, 11, 10, 0);
        locked(x, 0, 0);
        Check.refused("its own super", () -> x.load(1, 8));
        Check.refused("into a circle", () -> x.load(1, 9));
        Check.refused("in a circle", () -> x.load(1, 10));
        Check.refused("again", () -> x.load(1, 8));
        Check.is("none is defined", x.look(1, 3), 0);
        x.file(1, 8, 0, 0);
        x.file(2, 9, 8, 0);
        x.file(2, 8, 20, 0);
        x.file(1, 20, 8, 0);
        locked(x, 0, 1);
        locked(x, 2, 2);
        Check.is("a like name by another loader is no circle", x.load(3, 8), 10);
        Check.yes("8 of one loader under 8 of the other", x.isA(10, 8));
    }

    private static void linkErrors() {
        ScopeTree x = new ScopeTree();
        x.file(0, 8, 9, 0);
        x.file(0, 9, 63, 0);
        x.file(0, 10, 7, 0);
        locked(x, 0, 0);
        Check.refused("no super", () -> x.load(1, 9));
        Check.refused("no super's super", () -> x.load(1, 8));
        Check.is("another one", x.load(1, 10), 8);
    }

    private static void chain(ScopeTree x, int archive, int first, int length, int last) {
        for (int i = 0; i < length; i++) {
            x.file(archive, first + i, i == length - 1 ? last : first + i + 1, 0);
        }
    }

    private static void eightInOneAnother() {
        ScopeTree x = new ScopeTree();
        chain(x, 0, 8, 8, 0);
        locked(x, 0, 0);
        Check.is("eight", x.load(1, 8), 15);
        Check.is("eight are defined", x.look(1, 3), 8);
    }

    private static void nineInOneAnother() {
        ScopeTree x = new ScopeTree();
        chain(x, 0, 8, 8, 16);
        x.file(1, 16, 0, 0);
        x.child(0);
        x.add(1, 0, true);
        x.add(1, 1, true);
        x.lock(1);
        Check.refused("nine", () -> x.load(1, 8));
        Check.is("none is defined", x.look(1, 3), 0);
        Check.is("the ninth by itself", x.load(1, 16), 8);
        Check.is("then it was defined", x.load(1, 8), 16);
    }

    private static void depthGoesThroughLoaders() {
        ScopeTree x = new ScopeTree();
        chain(x, 0, 8, 5, 0);
        chain(x, 1, 20, 4, 8);
        locked(x, 0, 0);
        locked(x, 1, 1);
        Check.refused("four and five", () -> x.load(2, 20));
        Check.is("three and five", x.load(2, 21), 15);
        Check.is("then the first", x.load(2, 20), 16);
    }

    private static void mostClasses() {
        ScopeTree x = new ScopeTree();
        for (int archive = 0; archive < 4; archive++) {
            for (int i = 0; i < 8; i++) {
                x.file(archive, 8 + 8 * archive + i, 0, 0);
            }
        }
        int scope = 0;
        int count = 8;
        for (int round = 0; round < 4; round++) {
            scope = x.child(scope);
            for (int archive = 0; archive < 4; archive++) {
                x.add(scope, archive, true);
            }
            x.lock(scope);
            for (int name = 8; name < 40 && count < 119; name++) {
                Check.is("class", x.load(scope, name), count);
                count++;
            }
        }
        int last = scope;
        // 119 are there; the super takes the last number and stays, what extends it is refused.
        x.wipe(9);
        x.file(9, 60, 61, 4);
        x.file(9, 61, 0, 5);
        int more = locked(x, last, 9);
        Check.refused("two more", () -> x.load(more, 60));
        Check.is("the super stays", x.load(more, 61), 119);
        Check.is("it is one of the loader's", x.look(x.loader(more, false), 3), 1);
        Check.is("its version", x.info(119, 2), 5);
        Check.refused("one more", () -> x.load(more, 60));
        Check.missing("class 120", () -> x.info(120, 0));
        Check.missing("a name that is not there", () -> x.load(more, 50));
        Check.is("one that is defined", x.load(1, 8), 8);
        x.release(more);
        int anew = locked(x, last, 9);
        Check.refused("gone ones count", () -> x.load(anew, 61));
    }

    private static void wrongLoads() {
        ScopeTree x = new ScopeTree();
        x.file(0, 8, 0, 0);
        x.child(0);
        x.add(1, 0, false);
        Check.badArgument("scope -1", () -> x.load(-1, 8));
        Check.badArgument("scope 2", () -> x.load(2, 8));
        Check.badArgument("name -1", () -> x.load(1, -1));
        Check.badArgument("name 64 comes before open", () -> x.load(1, 64));
        Check.badState("open", () -> x.load(1, 8));
        Check.badState("open, a platform's name", () -> x.load(1, 0));
        x.lock(1);
        Check.missing("no such class", () -> x.load(1, 63));
        Check.is("class", x.load(1, 8), 8);
        x.release(1);
        Check.badState("released", () -> x.load(1, 8));
    }

    private static void infoOfAll() {
        ScopeTree x = new ScopeTree();
        x.file(0, 8, 2, 9);
        locked(x, 0, 0);
        x.load(1, 8);
        Check.is("version", x.info(8, 2), 9);
        Check.is("super", x.info(8, 3), 2);
        Check.missing("what 4", () -> x.info(8, 4));
        Check.missing("what -1", () -> x.info(8, -1));
        Check.missing("class 9", () -> x.info(9, 0));
        Check.missing("class -1", () -> x.info(-1, 0));
        Check.missing("greatest class", () -> x.info(Integer.MAX_VALUE, 0));
    }

    private static void kinds() {
        ScopeTree x = new ScopeTree();
        x.file(0, 8, 3, 0);
        x.file(0, 9, 8, 0);
        x.file(0, 10, 8, 0);
        locked(x, 0, 0);
        x.load(1, 9);
        x.load(1, 10);
        Check.yes("itself", x.isA(9, 9));
        Check.yes("its super", x.isA(9, 8));
        Check.yes("its super's super", x.isA(9, 3));
        Check.no("another of the platform's", x.isA(9, 0));
        Check.no("not the other way", x.isA(8, 9));
        Check.no("a sibling", x.isA(9, 10));
        Check.yes("platform itself", x.isA(7, 7));
        Check.no("platform", x.isA(7, 0));
        Check.missing("class 11", () -> x.isA(11, 8));
        Check.missing("other 11", () -> x.isA(8, 11));
        Check.missing("both", () -> x.isA(11, 11));
        Check.missing("class -1", () -> x.isA(-1, 0));
        Check.missing("other -1", () -> x.isA(0, -1));
        x.release(1);
        Check.yes("gone ones keep their supers", x.isA(9, 8));
    }
}
