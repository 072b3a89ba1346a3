/**
 * The edges of promises 15 and 16. Each method has the document's sentence above it.
 */
public final class ApplyEdgesTest {
    public static void main(String[] args) {
        applyToAScopeThatIsThere();
        pluginsAreZeroToNine();
        applyWhileLocked();
        noDescriptor();
        theFirstArchiveThatHasOne();
        thenFromTheParent();
        whatAFilterLetsThrough();
        otherwiseThereIsNone();
        loadedFromTheLocalLoader();
        appliedNowOrBefore();
        notAPlugin();
        aPluginByItsSupers();
        atMostEight();
        othersWhenThereAreEight();
        throwsAsLoadDoes();
        throwsWhenThereAre120();
        appliedOfAScopeThatIsThere();
        appliedAsKth();
        Check.end();
    }

    /** A scope under parent, locked, with these archives as its export path. */
    private static int locked(ScopeTree x, int parent, int... archives) {
        int scope = x.child(parent);
        for (int archive : archives) {
            x.add(scope, archive, true);
        }
        x.lock(scope);
        return scope;
    }

    // "Throws as load does": "IllegalArgumentException when there is no such scope .."
    private static void applyToAScopeThatIsThere() {
        ScopeTree x = new ScopeTree();
        x.descriptor(0, 0, 1);
        locked(x, 0, 0);
        Check.badArguments("scope", 0, 1, scope -> x.apply(scope, 0));
        Check.is("the last one", x.apply(1, 0), 1);
        Check.is("the first one", x.apply(0, 0), -1);
    }

    // "Applies a plugin (0 .. 9)": what load throws for a name that is not there.
    private static void pluginsAreZeroToNine() {
        ScopeTree x = new ScopeTree();
        x.file(0, 8, 1, 0);
        x.descriptor(0, 0, 1);
        x.descriptor(0, 9, 8);
        locked(x, 0, 0);
        Check.badArguments("plugin", 0, 9, plugin -> x.apply(1, plugin));
        Check.badArguments("plugin of scope 0", 0, 9, plugin -> x.apply(0, plugin));
        Check.is("plugin 0", x.apply(1, 0), 1);
        Check.is("plugin 9", x.apply(1, 9), 1);
    }

    // "Throws as load does": "IllegalStateException when the scope is not locked, or released"
    private static void applyWhileLocked() {
        ScopeTree x = new ScopeTree();
        x.descriptor(0, 0, 1);
        x.child(0);
        x.add(1, 0, true);
        x.child(0);
        x.release(2);
        for (int plugin : new int[] {0, 9}) {
            Check.badState("open, plugin " + plugin, () -> x.apply(1, plugin));
            Check.badState("released when open, plugin " + plugin, () -> x.apply(2, plugin));
        }
        Check.is("none was applied", x.applied(1, 0), -1);
        x.lock(1);
        Check.is("locked", x.apply(1, 0), 1);
        x.release(1);
        for (int plugin : new int[] {0, 9}) {
            Check.badState("released when locked, plugin " + plugin, () -> x.apply(1, plugin));
        }
    }

    // "-1 when there is no descriptor"
    private static void noDescriptor() {
        ScopeTree x = new ScopeTree();
        x.file(0, 8, 1, 0);
        x.descriptor(0, 3, 8);
        x.descriptor(1, 4, 8);
        locked(x, 0, 0);
        locked(x, 0);
        locked(x, 1);
        for (int plugin = 0; plugin < 10; plugin++) {
            Check.is("scope 0, plugin " + plugin, x.apply(0, plugin), -1);
            Check.is("no loader of its own, plugin " + plugin, x.apply(2, plugin), -1);
            if (plugin != 3) {
                Check.is("none in its archive, plugin " + plugin, x.apply(1, plugin), -1);
            }
        }
        Check.missing("nothing was loaded", () -> x.info(8, 0));
        Check.is("the one that is there", x.apply(1, 3), 1);
        Check.is("the one of the parent", x.apply(3, 3), 1);
    }

    // "in the archives of a defining loader's path, the first that has one"
    private static void theFirstArchiveThatHasOne() {
        for (int first = 0; first < 4; first++) {
            ScopeTree x = new ScopeTree();
            for (int archive = 0; archive < 4; archive++) {
                x.file(archive, 8 + archive, 1, 0);
                if (archive >= first) {
                    x.descriptor(archive, 9, 8 + archive);
                }
            }
            locked(x, 0, 0, 1, 2, 3);
            Check.is("apply", x.apply(1, 9), 1);
            Check.is("the first is archive " + first, x.info(x.applied(1, 0), 0), 8 + first);
        }
    }

    // "from the local loader on: .. then from its parent"
    private static void thenFromTheParent() {
        ScopeTree x = new ScopeTree();
        x.file(0, 8, 1, 0);
        x.descriptor(0, 0, 8);
        x.descriptor(0, 1, 8);
        x.file(1, 9, 1, 0);
        x.descriptor(1, 1, 9);
        int scope = 0;
        for (int i = 1; i < 11; i++) {
            scope = locked(x, scope, i == 1 ? 0 : 2);
        }
        int last = x.child(scope);
        x.add(last, 1, false);
        x.lock(last);
        Check.is("from ten loaders above", x.apply(last, 0), 1);
        Check.is("its class", x.info(x.applied(last, 0), 0), 8);
        Check.is("its own comes first", x.apply(last, 1), 1);
        Check.is("its class", x.info(x.applied(last, 1), 0), 9);
        Check.is("to the scope above", x.apply(scope, 1), 1);
        Check.is("it sees the one far above", x.info(x.applied(scope, 0), 0), 8);
    }

    /** Plugins 0 .. 3 are classes 7, 8, 63 and 1; scope 2 sees them through the filter alone. */
    private static ScopeTree through(int packages, long allowed, long denied) {
        ScopeTree x = new ScopeTree();
        x.file(0, 8, 1, 0);
        x.file(0, 63, 1, 0);
        x.descriptor(0, 0, 7);
        x.descriptor(0, 1, 8);
        x.descriptor(0, 2, 63);
        x.descriptor(0, 3, 1);
        x.child(0);
        x.add(1, 0, true);
        x.filter(1, packages, allowed, denied);
        x.lock(1);
        locked(x, 1);
        return x;
    }

    private static void applies(String what, ScopeTree x, int of7, int of8, int of63, int of1) {
        Check.is(what + ": class 7", x.apply(2, 0), of7);
        Check.is(what + ": class 8", x.apply(2, 1), of8);
        Check.is(what + ": class 63", x.apply(2, 2), of63);
        Check.is(what + ": class 1", x.apply(2, 3), of1);
    }

    // "(a filtering loader lets it through if it admits the class's name, or that is of the platform"
    private static void whatAFilterLetsThrough() {
        applies("all empty", through(0, 0, 0), -2, -1, -1, 1);
        applies("all packages", through(255, 0, 0), -2, 1, 1, 1);
        applies("all denied", through(255, -1L, -1L), -2, -1, -1, 1);
        applies("8 allowed", through(0, 1L << 8, 0), -2, 1, -1, 1);
        applies("63 allowed", through(0, 1L << 63, 0), -2, -1, 1, 1);
        applies("package 1", through(1 << 1, 0, 0), -2, 1, -1, 1);
        applies("package 7", through(1 << 7, 0, 0), -2, -1, 1, 1);
        applies("8 denied", through(255, 0, 1L << 8), -2, -1, 1, 1);
        applies("63 denied", through(255, -1L, 1L << 63), -2, 1, -1, 1);
        ScopeTree x = through(0, 0, 0);
        Check.is("its own scope is not filtered", x.apply(1, 1), 1);
    }

    // "otherwise there is none": it is not looked for further on, nor let through by a filter below.
    private static void otherwiseThereIsNone() {
        ScopeTree x = new ScopeTree();
        x.file(0, 8, 1, 0);
        x.descriptor(0, 5, 8);
        x.file(1, 16, 1, 0);
        x.descriptor(1, 5, 16);
        locked(x, 0, 0);
        x.child(1);
        x.add(2, 1, true);
        x.filter(2, 1 << 1, 0, 0);
        x.lock(2);
        locked(x, 2);
        Check.is("16 is held back, 8 behind it is not reached", x.apply(3, 5), -1);
        x.child(2);
        x.filter(4, 255, -1L, 0);
        x.lock(4);
        locked(x, 4);
        Check.is("a filter below that admits it changes nothing", x.apply(5, 5), -1);
        Check.missing("nothing was loaded", () -> x.info(8, 0));
        Check.is("8 from scope 1", x.apply(1, 5), 1);
        Check.is("16 from scope 2", x.apply(2, 5), 1);
    }

    // "the name is loaded from the scope's local loader"
    private static void loadedFromTheLocalLoader() {
        ScopeTree x = new ScopeTree();
        x.file(0, 8, 1, 3);
        x.descriptor(0, 0, 8);
        x.file(1, 8, 1, 4);
        locked(x, 0, 0);
        x.child(1);
        x.add(2, 1, false);
        x.lock(2);
        Check.is("apply", x.apply(2, 0), 1);
        Check.is("the class of the local loader", x.info(x.applied(2, 0), 2), 4);
        Check.is("the loader of the descriptor has defined none", x.look(1, 3), 0);
    }

    // "1 when the class is applied to the scope now, 0 when it was"
    private static void appliedNowOrBefore() {
        ScopeTree x = new ScopeTree();
        x.file(0, 8, 1, 0);
        x.descriptor(0, 0, 8);
        x.descriptor(0, 1, 8);
        locked(x, 0, 0);
        locked(x, 0, 0);
        Check.is("now", x.apply(1, 0), 1);
        Check.is("before", x.apply(1, 0), 0);
        Check.is("before, by another plugin", x.apply(1, 1), 0);
        Check.is("once", x.applied(1, 1), -1);
        Check.is("the same class to another scope", x.apply(2, 1), 1);
        Check.is("it is the same", x.applied(2, 0), x.applied(1, 0));
        x.file(1, 8, 1, 0);
        x.descriptor(1, 0, 8);
        x.child(1);
        x.add(3, 1, false);
        x.lock(3);
        Check.is("a like name by another loader", x.apply(3, 0), 1);
        Check.is("is another class", x.applied(3, 0), 9);
    }

    // "-2 when the class is not a PLUGIN (isA platform class 1)"
    private static void notAPlugin() {
        ScopeTree x = new ScopeTree();
        for (int name = 0; name < 8; name++) {
            x.descriptor(name / 4, name, name);
        }
        locked(x, 0, 0, 1);
        for (int name = 0; name < 8; name++) {
            Check.is("platform class " + name, x.apply(1, name), name == 1 ? 1 : -2);
        }
        Check.is("again", x.apply(1, 0), -2);
        Check.is("class 1 alone was applied", x.applied(1, 0), 1);
        Check.is("no other", x.applied(1, 1), -1);
    }

    // "isA": "or its super is, and so on"
    private static void aPluginByItsSupers() {
        for (int last = 0; last < 3; last++) {
            ScopeTree x = new ScopeTree();
            for (int i = 0; i < 8; i++) {
                x.file(0, 8 + i, i == 7 ? last : 9 + i, 0);
            }
            x.descriptor(0, 0, 8);
            x.descriptor(0, 1, 15);
            locked(x, 0, 0);
            Check.is("eight above " + last, x.apply(1, 0), last == 1 ? 1 : -2);
            Check.is("one above " + last, x.apply(1, 1), last == 1 ? 1 : -2);
            Check.is("all are defined", x.look(1, 3), 8);
        }
    }

    /** Scope 1 with eight applied: plugins 0 .. 7, classes named 8 .. 15. Plugins 8 and 9 are left. */
    private static ScopeTree withEight(int nameOf8, int nameOf9) {
        ScopeTree x = new ScopeTree();
        for (int i = 0; i < 8; i++) {
            x.file(0, 8 + i, 1, 0);
            x.descriptor(i / 4, i, 8 + i);
        }
        x.file(1, 16, 1, 0);
        x.file(1, 17, 0, 0);
        x.file(1, 18, 63, 0);
        x.descriptor(2, 8, nameOf8);
        if (nameOf9 >= 0) {
            x.descriptor(2, 9, nameOf9);
        }
        locked(x, 0, 0, 1, 2);
        for (int plugin = 0; plugin < 8; plugin++) {
            Check.is("apply " + plugin, x.apply(1, plugin), 1);
        }
        return x;
    }

    // "-3 when the scope has 8"
    private static void atMostEight() {
        ScopeTree x = withEight(16, 1);
        Check.is("a ninth", x.apply(1, 8), -3);
        Check.is("again", x.apply(1, 8), -3);
        Check.is("the platform's", x.apply(1, 9), -3);
        Check.is("the eighth is as it was", x.applied(1, 7), 15);
        Check.is("no ninth", x.applied(1, 8), -1);
        Check.is("its class is loaded all the same", x.look(1, 3), 9);
        locked(x, 1);
        Check.is("to another scope", x.apply(2, 8), 1);
    }

    // The answers before "-3" in the document's row come first.
    private static void othersWhenThereAreEight() {
        ScopeTree x = withEight(17, -1);
        for (int plugin = 0; plugin < 8; plugin++) {
            Check.is("one that was, plugin " + plugin, x.apply(1, plugin), 0);
        }
        Check.is("not a plugin", x.apply(1, 8), -2);
        Check.is("no descriptor", x.apply(1, 9), -1);
        ScopeTree y = withEight(40, 18);
        Check.missing("no class", () -> y.apply(1, 8));
        Check.refused("no super", () -> y.apply(1, 9));
        Check.is("no ninth", y.applied(1, 8), -1);
    }

    // "Throws as load does": "NoSuchElementException when none is found; UnsupportedOperationException
    // for LINK ERROR, CIRCULAR, DEEP"
    private static void throwsAsLoadDoes() {
        ScopeTree x = new ScopeTree();
        x.descriptor(0, 0, 63);
        x.descriptor(0, 1, 8);
        x.descriptor(0, 2, 9);
        x.descriptor(0, 3, 16);
        x.file(0, 8, 62, 0);
        x.file(0, 9, 9, 0);
        for (int i = 0; i < 9; i++) {
            x.file(1 + i / 8, 16 + i, i == 8 ? 1 : 17 + i, 0);
        }
        locked(x, 0, 0, 1, 2);
        Check.missing("none is found", () -> x.apply(1, 0));
        Check.refused("link error", () -> x.apply(1, 1));
        Check.refused("circular", () -> x.apply(1, 2));
        Check.refused("deep", () -> x.apply(1, 3));
        Check.is("none was applied", x.applied(1, 0), -1);
        Check.missing("none was defined", () -> x.info(8, 0));
        x.load(1, 24);
        Check.is("eight in one another are not deep", x.apply(1, 3), 1);
    }

    // ".. and when there are 120 classes"
    private static void throwsWhenThereAre120() {
        ScopeTree x = new ScopeTree();
        for (int i = 0; i < 32; i++) {
            x.file(i / 8, 8 + i, 1, 0);
        }
        x.descriptor(0, 0, 8);
        x.descriptor(0, 1, 39);
        x.descriptor(0, 2, 1);
        x.descriptor(0, 3, 38);
        int made = 8;
        for (int scope = 1; scope <= 4; scope++) {
            locked(x, scope - 1, 0, 1, 2, 3);
            for (int name = 8; name < 40 && made < 119; name++) {
                x.load(scope, name);
                made++;
            }
        }
        Check.is("the last class", x.apply(4, 3), 1);
        Check.is("it is", x.applied(4, 0), 119);
        Check.refused("one more", () -> x.apply(4, 1));
        Check.is("one that is defined", x.apply(4, 0), 1);
        Check.is("the platform's", x.apply(4, 2), 1);
        Check.is("no descriptor", x.apply(4, 9), -1);
        Check.is("three were applied", x.applied(4, 2), 1);
        Check.is("no fourth", x.applied(4, 3), -1);
    }

    // "IllegalArgumentException when there is no such scope"
    private static void appliedOfAScopeThatIsThere() {
        ScopeTree x = new ScopeTree();
        x.child(0);
        Check.badArguments("scope", 0, 1, scope -> x.applied(scope, 0));
        Check.badArguments("scope and k", 0, 1, scope -> x.applied(scope, -1));
        Check.is("an open one", x.applied(1, 0), -1);
        x.release(1);
        Check.is("a released one", x.applied(1, 0), -1);
        Check.is("scope 0", x.applied(0, 0), -1);
    }

    // "The class applied as k-th to a scope; -1 when there is none."
    private static void appliedAsKth() {
        ScopeTree x = withEight(16, -1);
        for (int k = 0; k < 8; k++) {
            Check.is("k " + k, x.applied(1, k), 8 + k);
        }
        for (int k : Check.outside(0, 7)) {
            Check.is("k " + k, x.applied(1, k), -1);
            Check.is("k " + k + " of scope 0", x.applied(0, k), -1);
        }
        ScopeTree y = new ScopeTree();
        y.file(0, 8, 1, 0);
        y.descriptor(0, 0, 8);
        y.descriptor(0, 1, 1);
        locked(y, 0, 0);
        Check.is("none yet", y.applied(1, 0), -1);
        y.apply(1, 1);
        Check.is("the first", y.applied(1, 0), 1);
        Check.is("no second", y.applied(1, 1), -1);
        y.apply(1, 0);
        Check.is("the second", y.applied(1, 1), 8);
        Check.is("no third", y.applied(1, 2), -1);
        y.release(1);
        Check.is("the second of a released one", y.applied(1, 1), 8);
        Check.is("no third of a released one", y.applied(1, 2), -1);
    }
}
