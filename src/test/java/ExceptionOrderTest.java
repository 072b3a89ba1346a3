/**
 * "Of several exceptions that hold the first one listed is thrown.": for each method with two kinds
 * of exceptions or more, calls for which two of them hold.
 */
public final class ExceptionOrderTest {
    public static void main(String[] args) {
        ofFile();
        ofDescriptor();
        ofChild();
        ofAdd();
        ofFilter();
        ofLock();
        ofRelease();
        ofLoad();
        ofApply();
        Check.end();
    }

    private static void ofFile() {
        ScopeTree x = new ScopeTree();
        for (int i = 0; i < 8; i++) {
            x.file(0, 8 + i, 0, 0);
        }
        Check.badState("full alone", () -> x.file(0, 16, 0, 0));
        Check.badArguments("full, and name", 8, 63, name -> x.file(0, name, 0, 0));
        Check.badArguments("full, and super", 0, 63, superName -> x.file(0, 16, superName, 0));
        Check.badArguments("full, and version", 0, 9, version -> x.file(0, 16, 0, version));
    }

    private static void ofDescriptor() {
        ScopeTree x = new ScopeTree();
        for (int i = 0; i < 4; i++) {
            x.descriptor(0, i, 0);
        }
        Check.badState("full alone", () -> x.descriptor(0, 4, 0));
        Check.badArguments("full, and plugin", 0, 9, plugin -> x.descriptor(0, plugin, 0));
        Check.badArguments("full, and name", 0, 63, name -> x.descriptor(0, 4, name));
    }

    private static void ofChild() {
        ScopeTree x = new ScopeTree();
        for (int i = 1; i < 12; i++) {
            x.child(0);
        }
        x.release(11);
        Check.badState("twelve alone", () -> x.child(0));
        Check.badArguments("twelve, and no parent", 0, 11, parent -> x.child(parent));
        Check.badArgument("twelve, and a released parent", () -> x.child(11));
    }

    private static void ofAdd() {
        ScopeTree x = new ScopeTree();
        x.child(0);
        x.add(1, 0, true);
        x.lock(1);
        x.child(0);
        x.release(2);
        Check.badArguments("scope 0, and archive", 0, 9, archive -> x.add(0, archive, true));
        Check.badArguments("locked, and archive", 0, 9, archive -> x.add(1, archive, true));
        Check.badArguments("released, and archive", 0, 9, archive -> x.add(2, archive, false));
        Check.badState("locked, and in that path", () -> x.add(1, 0, true));
    }

    private static void ofFilter() {
        ScopeTree x = new ScopeTree();
        x.child(0);
        x.lock(1);
        x.child(0);
        x.release(2);
        Check.badArguments("scope 0, and packages", 0, 255, packages -> x.filter(0, packages, 0, 0));
        Check.badArguments("locked, and packages", 0, 255, packages -> x.filter(1, packages, 0, 0));
        Check.badArguments("released, and packages", 0, 255, packages -> x.filter(2, packages, 0, 0));
    }

    private static void ofLock() {
        ScopeTree x = new ScopeTree();
        x.child(0);
        x.lock(1);
        x.child(0);
        x.child(2);
        x.child(0);
        x.release(4);
        LoaderNumbers.take(x, 1, 40);
        Check.refused("no number alone", () -> x.lock(2));
        Check.badArguments("no number, and no scope", 0, 4, scope -> x.lock(scope));
        Check.badState("no number, and scope 0", () -> x.lock(0));
        Check.badState("no number, and locked", () -> x.lock(1));
        Check.badState("no number, and the parent open", () -> x.lock(3));
        Check.badState("no number, and released", () -> x.lock(4));
    }

    private static void ofRelease() {
        ScopeTree x = new ScopeTree();
        x.child(0);
        Check.badArgument("scope 0, and a child is open", () -> x.release(0));
        x.lock(1);
        Check.badArgument("scope 0, and a child is locked", () -> x.release(0));
    }

    private static ScopeTree with120Classes() {
        ScopeTree x = new ScopeTree();
        for (int i = 0; i < 32; i++) {
            x.file(i / 8, 8 + i, 1, 0);
        }
        x.descriptor(0, 0, 50);
        x.descriptor(0, 1, 39);
        int made = 8;
        for (int scope = 1; scope <= 4; scope++) {
            x.child(scope - 1);
            for (int archive = 0; archive < 4; archive++) {
                x.add(scope, archive, true);
            }
            x.lock(scope);
            for (int name = 8; name < 40 && made < 120; name++) {
                x.load(scope, name);
                made++;
            }
        }
        x.child(4);
        return x;
    }

    private static void ofLoad() {
        ScopeTree x = with120Classes();
        Check.badArguments("open, and name", 0, 63, name -> x.load(5, name));
        Check.badState("open, and none is found", () -> x.load(5, 63));
        Check.badState("open, and 120 classes", () -> x.load(5, 39));
        Check.missing("none is found, and 120 classes", () -> x.load(4, 63));
        Check.refused("120 classes alone", () -> x.load(4, 39));
        Check.badArguments("no scope, and 120 classes", 0, 5, scope -> x.load(scope, 39));
        x.release(5);
        Check.badArguments("released, and name", 0, 63, name -> x.load(5, name));
        Check.badState("released, and none is found", () -> x.load(5, 63));
        Check.badState("released, and 120 classes", () -> x.load(5, 39));
    }

    private static void ofApply() {
        ScopeTree x = with120Classes();
        Check.badArguments("open, and plugin", 0, 9, plugin -> x.apply(5, plugin));
        Check.badState("open, and none is found", () -> x.apply(5, 0));
        Check.badState("open, and 120 classes", () -> x.apply(5, 1));
        Check.badState("open, and no descriptor", () -> x.apply(5, 9));
        Check.missing("none is found, and 120 classes", () -> x.apply(4, 0));
        Check.refused("120 classes alone", () -> x.apply(4, 1));
        Check.badArguments("no scope, and 120 classes", 0, 5, scope -> x.apply(scope, 1));
        x.release(5);
        Check.badArguments("released, and plugin", 0, 9, plugin -> x.apply(5, plugin));
        Check.badState("released, and no descriptor", () -> x.apply(5, 9));
    }
}
