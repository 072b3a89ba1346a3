/** Promises 1 to 4: a new object, file, descriptor, wipe. */
public final class ArchiveTest {
    public static void main(String[] args) {
        newObject();
        filesAreCounted();
        filesAreReplaced();
        wrongFiles();
        descriptorsAreCounted();
        descriptorsAreReplaced();
        wrongDescriptors();
        wipeTakesAll();
        Check.end();
    }

    private static void newObject() {
        ScopeTree x = new ScopeTree();
        Check.is("local loader of scope 0", x.loader(0, false), 0);
        Check.is("export loader of scope 0", x.loader(0, true), 0);
        Check.is("kind of the root", x.look(0, 0), 0);
        Check.is("parent of the root", x.look(0, 1), -1);
        Check.is("holders of the root", x.look(0, 2), 2);
        Check.is("classes the root has defined", x.look(0, 3), 0);
        Check.is("no loader 1", x.look(1, 0), -1);
        for (int c = 0; c < 8; c++) {
            Check.is("platform name", x.info(c, 0), c);
            Check.is("platform loader", x.info(c, 1), 0);
            Check.is("platform version", x.info(c, 2), 0);
            Check.is("platform super", x.info(c, 3), -1);
            Check.is("platform class from scope 0", x.load(0, c), c);
        }
        Check.missing("class 8 of a new object", () -> x.info(8, 0));
        Check.missing("name 8 from scope 0", () -> x.load(0, 8));
        Check.badArgument("scope 1 of a new object", () -> x.loader(1, false));
        Check.is("nothing applied", x.applied(0, 0), -1);
        for (int a = 0; a < 10; a++) {
            Check.is("first file of archive " + a, x.file(a, 8, 0, 0), 1);
            Check.is("first descriptor of archive " + a, x.descriptor(a, 0, 0), 1);
        }
    }

    private static void filesAreCounted() {
        ScopeTree x = new ScopeTree();
        for (int i = 0; i < 8; i++) {
            Check.is("file " + i, x.file(9, 56 + i, 63, 9), i + 1);
        }
        Check.badState("a ninth file", () -> x.file(9, 8, 0, 0));
        Check.is("in place of one, when full", x.file(9, 63, 0, 0), 8);
        Check.badState("still full", () -> x.file(9, 8, 0, 0));
        Check.badArgument("a wrong file when full", () -> x.file(9, 8, 64, 0));
        Check.is("another archive", x.file(0, 8, 0, 0), 1);
    }

    private static void filesAreReplaced() {
        ScopeTree x = new ScopeTree();
        Check.is("first", x.file(0, 8, 0, 1), 1);
        Check.is("second", x.file(0, 9, 1, 2), 2);
        Check.is("first again", x.file(0, 8, 9, 3), 2);
        x.child(0);
        x.add(1, 0, false);
        x.lock(1);
        Check.is("load 8", x.load(1, 8), 9);
        Check.is("its version is the newer", x.info(9, 2), 3);
        Check.is("its super is the newer", x.info(9, 3), 8);
        Check.is("the other's version stays", x.info(8, 2), 2);
        Check.is("the other's super stays", x.info(8, 3), 1);
    }

    private static void wrongFiles() {
        ScopeTree x = new ScopeTree();
        Check.badArgument("archive -1", () -> x.file(-1, 8, 0, 0));
        Check.badArgument("archive 10", () -> x.file(10, 8, 0, 0));
        Check.badArgument("name 7", () -> x.file(0, 7, 0, 0));
        Check.badArgument("name -1", () -> x.file(0, -1, 0, 0));
        Check.badArgument("name 64", () -> x.file(0, 64, 0, 0));
        Check.badArgument("super -1", () -> x.file(0, 8, -1, 0));
        Check.badArgument("super 64", () -> x.file(0, 8, 64, 0));
        Check.badArgument("version -1", () -> x.file(0, 8, 0, -1));
        Check.badArgument("version 10", () -> x.file(0, 8, 0, 10));
        Check.badArgument("least name", () -> x.file(0, Integer.MIN_VALUE, 0, 0));
        Check.badArgument("greatest archive", () -> x.file(Integer.MAX_VALUE, 8, 0, 0));
        Check.is("none of these came in", x.file(0, 8, 63, 9), 1);
    }

    private static void descriptorsAreCounted() {
        ScopeTree x = new ScopeTree();
        for (int i = 0; i < 4; i++) {
            Check.is("descriptor " + i, x.descriptor(0, 6 + i, 63), i + 1);
        }
        Check.badState("a fifth descriptor", () -> x.descriptor(0, 0, 0));
        Check.is("in place of one, when full", x.descriptor(0, 9, 0), 4);
        Check.badArgument("a wrong descriptor when full", () -> x.descriptor(0, 0, 64));
        Check.is("files are counted apart", x.file(0, 8, 0, 0), 1);
    }

    private static void descriptorsAreReplaced() {
        ScopeTree x = new ScopeTree();
        x.descriptor(0, 3, 0);
        Check.is("in place of the first", x.descriptor(0, 3, 1), 1);
        x.child(0);
        x.add(1, 0, false);
        x.lock(1);
        Check.is("the newer is applied", x.apply(1, 3), 1);
        Check.is("class 1 is applied", x.applied(1, 0), 1);
    }

    private static void wrongDescriptors() {
        ScopeTree x = new ScopeTree();
        Check.badArgument("archive -1", () -> x.descriptor(-1, 0, 0));
        Check.badArgument("archive 10", () -> x.descriptor(10, 0, 0));
        Check.badArgument("plugin -1", () -> x.descriptor(0, -1, 0));
        Check.badArgument("plugin 10", () -> x.descriptor(0, 10, 0));
        Check.badArgument("name -1", () -> x.descriptor(0, 0, -1));
        Check.badArgument("name 64", () -> x.descriptor(0, 0, 64));
        Check.is("none of these came in", x.descriptor(0, 0, 0), 1);
    }

    private static void wipeTakesAll() {
        ScopeTree x = new ScopeTree();
        x.file(4, 8, 0, 0);
        x.file(4, 9, 0, 0);
        x.descriptor(4, 0, 1);
        x.file(5, 8, 0, 0);
        x.wipe(4);
        Check.is("files after wipe", x.file(4, 10, 0, 0), 1);
        Check.is("descriptors after wipe", x.descriptor(4, 1, 1), 1);
        Check.is("another archive is left alone", x.file(5, 9, 0, 0), 2);
        x.child(0);
        x.add(1, 4, true);
        x.lock(1);
        Check.missing("a wiped file", () -> x.load(1, 8));
        Check.is("a wiped descriptor", x.apply(1, 0), -1);
        Check.is("a file after wipe", x.load(1, 10), 8);
        x.wipe(4);
        Check.is("the locked scope keeps its files", x.load(1, 10), 8);
        Check.is("the locked scope keeps its descriptors", x.apply(1, 1), 1);
        Check.badArgument("wipe -1", () -> x.wipe(-1));
        Check.badArgument("wipe 10", () -> x.wipe(10));
        x.wipe(0);
        x.wipe(9);
    }
}
