/** Promises 5 to 7: child, add, filter. */
public final class ScopeSetupTest {
    public static void main(String[] args) {
        childrenAreNumbered();
        numbersAreNotGivenAnew();
        wrongParents();
        pathsGrow();
        pathsKeepTheirOrder();
        wrongAdds();
        filtersAdmit();
        filtersReachTheLastBit();
        filtersAreReplaced();
        wrongFilters();
        Check.end();
    }

    private static void childrenAreNumbered() {
        ScopeTree x = new ScopeTree();
        for (int i = 1; i < 12; i++) {
            Check.is("scope", x.child(i - 1), i);
        }
        Check.badState("a thirteenth scope", () -> x.child(0));
        Check.badArgument("no such parent comes first", () -> x.child(12));
        Check.is("the last is open", x.loader(11, true), -1);
        Check.badArgument("there is no scope 12", () -> x.loader(12, true));
    }

    private static void numbersAreNotGivenAnew() {
        ScopeTree x = new ScopeTree();
        for (int i = 1; i < 12; i++) {
            Check.is("scope", x.child(0), i);
            Check.is("release", x.release(i), 0);
        }
        Check.badState("released ones count", () -> x.child(0));
        Check.badArgument("a released parent comes first", () -> x.child(11));
    }

    private static void wrongParents() {
        ScopeTree x = new ScopeTree();
        Check.badArgument("parent -1", () -> x.child(-1));
        Check.badArgument("parent 1", () -> x.child(1));
        Check.is("child", x.child(0), 1);
        Check.is("child of an open one", x.child(1), 2);
        x.release(2);
        Check.badArgument("released parent", () -> x.child(2));
        Check.is("next", x.child(1), 3);
    }

    private static void pathsGrow() {
        ScopeTree x = new ScopeTree();
        x.child(0);
        for (int a = 0; a < 4; a++) {
            Check.yes("add " + a, x.add(1, a, false));
            Check.no("add twice " + a, x.add(1, a, false));
        }
        Check.no("a fifth", x.add(1, 9, false));
        Check.yes("the other path", x.add(1, 9, true));
        Check.yes("in both paths", x.add(1, 0, true));
        Check.no("twice in the other path", x.add(1, 9, true));
    }

    private static void pathsKeepTheirOrder() {
        ScopeTree x = new ScopeTree();
        x.file(0, 8, 0, 1);
        x.file(1, 8, 0, 2);
        x.file(1, 9, 0, 3);
        x.child(0);
        x.add(1, 1, true);
        x.add(1, 0, true);
        x.child(0);
        x.add(2, 0, true);
        x.add(2, 1, true);
        Check.is("lock", x.lock(1), 1);
        Check.is("another order is another loader", x.lock(2), 2);
        Check.is("first of 1, 0", x.info(x.load(1, 8), 2), 2);
        Check.is("first of 0, 1", x.info(x.load(2, 8), 2), 1);
        Check.is("from the second archive", x.info(x.load(2, 9), 2), 3);
    }

    private static void wrongAdds() {
        ScopeTree x = new ScopeTree();
        x.child(0);
        Check.badArgument("scope -1", () -> x.add(-1, 0, true));
        Check.badArgument("scope 2", () -> x.add(2, 0, true));
        Check.badArgument("archive -1", () -> x.add(1, -1, true));
        Check.badArgument("archive 10", () -> x.add(1, 10, false));
        Check.badArgument("archive 10 comes before locked", () -> x.add(0, 10, false));
        Check.badState("scope 0", () -> x.add(0, 0, true));
        x.add(1, 0, true);
        x.lock(1);
        Check.badState("locked", () -> x.add(1, 0, true));
        x.release(1);
        Check.badState("released", () -> x.add(1, 1, true));
        x.child(0);
        x.release(2);
        Check.badState("released, never locked", () -> x.add(2, 1, true));
    }

    private static ScopeTree filtered(int packages, long allowed, long denied) {
        ScopeTree x = new ScopeTree();
        x.file(0, 15, 0, 0);
        x.file(0, 16, 0, 0);
        x.file(0, 23, 0, 0);
        x.file(0, 24, 0, 0);
        x.file(0, 63, 0, 0);
        x.child(0);
        x.add(1, 0, true);
        x.filter(1, packages, allowed, denied);
        x.lock(1);
        x.child(1);
        x.lock(2);
        return x;
    }

    private static void filtersAdmit() {
        ScopeTree x = filtered(1 << 2, 1L << 24 | 1L << 15, 1L << 23 | 1L << 15);
        Check.is("the filter's loader", x.loader(1, true), 2);
        Check.is("of a package", x.load(2, 16), 8);
        Check.missing("of a package, but denied", () -> x.load(2, 23));
        Check.is("allowed", x.load(2, 24), 9);
        Check.missing("allowed, but denied", () -> x.load(2, 15));
        Check.missing("neither", () -> x.load(2, 63));
        Check.is("the scope itself is not filtered", x.load(1, 63), 10);
        Check.is("platform names are not filtered", x.load(2, 7), 7);
        Check.is("the filtering loader defines none", x.look(2, 3), 0);
    }

    private static void filtersReachTheLastBit() {
        ScopeTree x = filtered(0, 1L << 63, 0);
        Check.is("63 allowed", x.load(2, 63), 8);
        Check.missing("31 is not 63", () -> x.load(2, 24));
        ScopeTree y = filtered(255, 0, 1L << 63);
        Check.missing("63 denied", () -> y.load(2, 63));
        Check.is("all packages", y.load(2, 24), 8);
        ScopeTree z = filtered(255, -1L, -1L);
        Check.missing("all denied", () -> z.load(2, 16));
        Check.is("but the platform's", z.load(2, 0), 0);
        ScopeTree w = filtered(1 << 7, 0, 0);
        Check.is("the last package", w.load(2, 63), 8);
        ScopeTree v = filtered(0, 0, 0);
        Check.missing("an empty filter admits none", () -> v.load(2, 63));
    }

    private static void filtersAreReplaced() {
        ScopeTree x = new ScopeTree();
        x.file(0, 16, 0, 0);
        x.child(0);
        x.add(1, 0, true);
        x.filter(1, 0, 0, 0);
        x.filter(1, 4, 0, 0);
        Check.is("lock", x.lock(1), 1);
        Check.is("one filtering loader", x.loader(1, true), 2);
        Check.is("nothing above it", x.look(3, 0), -1);
        x.child(1);
        x.lock(2);
        Check.is("the newer filter holds", x.load(2, 16), 8);
    }

    private static void wrongFilters() {
        ScopeTree x = new ScopeTree();
        x.child(0);
        Check.badArgument("scope -1", () -> x.filter(-1, 0, 0, 0));
        Check.badArgument("scope 2", () -> x.filter(2, 0, 0, 0));
        Check.badArgument("packages -1", () -> x.filter(1, -1, 0, 0));
        Check.badArgument("packages 256", () -> x.filter(1, 256, 0, 0));
        Check.badArgument("packages 256 comes before locked", () -> x.filter(0, 256, 0, 0));
        Check.badState("scope 0", () -> x.filter(0, 0, 0, 0));
        x.lock(1);
        Check.is("no filter was set", x.loader(1, true), 0);
        Check.badState("locked", () -> x.filter(1, 255, 0, 0));
        x.release(1);
        Check.badState("released", () -> x.filter(1, 255, 0, 0));
    }
}
