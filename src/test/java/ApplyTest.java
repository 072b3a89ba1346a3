/** Promises 15 and 16: apply, applied. */
public final class ApplyTest {
    public static void main(String[] args) {
        appliedOnce();
        firstDescriptorWins();
        theNameIsLoadedFromTheScope();
        filtersStopDescriptors();
        aStoppedDescriptorIsNotLookedForFurther();
        noPlugins();
        atMostEight();
        failedLoads();
        wrongApplies();
        releasedKeepsApplied();
        Check.end();
    }

    private static void appliedOnce() {
        ScopeTree x = new ScopeTree();
        x.file(0, 8, 1, 0);
        x.file(0, 9, 8, 0);
        x.descriptor(0, 0, 9);
        x.descriptor(0, 9, 8);
        x.descriptor(0, 4, 9);
        x.descriptor(0, 5, 1);
        x.child(0);
        x.add(1, 0, true);
        x.lock(1);
        x.child(1);
        x.lock(2);
        Check.is("apply", x.apply(1, 0), 1);
        Check.is("again", x.apply(1, 0), 0);
        Check.is("another plugin of that class", x.apply(1, 4), 0);
        Check.is("another class", x.apply(1, 9), 1);
        Check.is("platform class 1 itself", x.apply(1, 5), 1);
        Check.is("first", x.applied(1, 0), 9);
        Check.is("second", x.applied(1, 1), 8);
        Check.is("third", x.applied(1, 2), 1);
        Check.is("no fourth", x.applied(1, 3), -1);
        Check.is("no -1st", x.applied(1, -1), -1);
        Check.is("the child has none yet", x.applied(2, 0), -1);
        Check.is("to the child", x.apply(2, 9), 1);
        Check.is("of the child", x.applied(2, 0), 8);
    }

    private static void firstDescriptorWins() {
        ScopeTree x = new ScopeTree();
        for (int archive = 0; archive < 3; archive++) {
            x.file(archive, 8 + archive, 1, 0);
            x.descriptor(archive, 7, 8 + archive);
        }
        x.descriptor(2, 6, 10);
        x.child(0);
        x.add(1, 2, true);
        x.add(1, 1, false);
        x.add(1, 0, false);
        x.lock(1);
        Check.is("apply", x.apply(1, 7), 1);
        Check.is("of the first archive of the local loader", x.info(x.applied(1, 0), 0), 9);
        Check.is("from the parent loader", x.apply(1, 6), 1);
        Check.is("its class", x.info(x.applied(1, 1), 0), 10);
    }

    private static void theNameIsLoadedFromTheScope() {
        ScopeTree x = new ScopeTree();
        x.file(0, 8, 1, 3);
        x.descriptor(0, 2, 8);
        x.file(1, 8, 1, 4);
        x.child(0);
        x.add(1, 0, true);
        x.add(1, 1, false);
        x.lock(1);
        Check.is("apply", x.apply(1, 2), 1);
        Check.is("the local class", x.info(x.applied(1, 0), 2), 4);
    }

    private static ScopeTree behindFilter(int packages, long allowed, long denied) {
        ScopeTree x = new ScopeTree();
        x.file(0, 8, 1, 0);
        x.file(0, 16, 1, 0);
        x.descriptor(0, 0, 8);
        x.descriptor(0, 1, 16);
        x.descriptor(0, 2, 1);
        x.child(0);
        x.add(1, 0, true);
        x.filter(1, packages, allowed, denied);
        x.lock(1);
        x.child(1);
        x.lock(2);
        return x;
    }

    private static void filtersStopDescriptors() {
        ScopeTree x = behindFilter(1 << 1, 0, 0);
        Check.is("of the package", x.apply(2, 0), 1);
        Check.is("not admitted", x.apply(2, 1), -1);
        Check.is("of the platform", x.apply(2, 2), 1);
        Check.is("the scope itself has it", x.apply(1, 1), 1);
        ScopeTree y = behindFilter(255, -1L, -1L);
        Check.is("all denied", y.apply(2, 0), -1);
        Check.is("but the platform's", y.apply(2, 2), 1);
        ScopeTree z = behindFilter(255, 0, 0);
        z.child(2);
        z.filter(3, 1 << 2, 0, 0);
        z.lock(3);
        z.child(3);
        z.lock(4);
        Check.is("the first filter alone stops it", z.apply(4, 0), -1);
        Check.is("both admit it", z.apply(4, 1), 1);
    }

    private static void aStoppedDescriptorIsNotLookedForFurther() {
        ScopeTree x = new ScopeTree();
        x.file(0, 8, 1, 0);
        x.descriptor(0, 0, 8);
        x.file(1, 16, 1, 0);
        x.descriptor(1, 0, 16);
        x.child(0);
        x.add(1, 0, true);
        x.lock(1);
        x.child(1);
        x.add(2, 1, true);
        x.filter(2, 1 << 1, 0, 0);
        x.lock(2);
        x.child(2);
        x.lock(3);
        Check.is("plugin 0 of archive 1 is stopped, that of archive 0 is behind it", x.apply(3, 0), -1);
        x.child(2);
        x.add(4, 2, false);
        x.lock(4);
        Check.is("also from a loader below", x.apply(4, 0), -1);
    }

    private static void noPlugins() {
        ScopeTree x = new ScopeTree();
        x.file(0, 8, 0, 0);
        x.descriptor(0, 0, 8);
        x.descriptor(0, 1, 2);
        x.child(0);
        x.add(1, 0, true);
        x.lock(1);
        Check.is("no descriptor", x.apply(1, 2), -1);
        Check.is("scope 0 has none", x.apply(0, 0), -1);
        Check.is("not a plugin", x.apply(1, 0), -2);
        Check.is("not a plugin, again", x.apply(1, 0), -2);
        Check.is("a platform class that is none", x.apply(1, 1), -2);
        Check.is("none applied", x.applied(1, 0), -1);
        Check.is("but it is defined", x.look(1, 3), 1);
    }

    private static void atMostEight() {
        ScopeTree x = new ScopeTree();
        for (int i = 0; i < 8; i++) {
            x.file(0, 8 + i, 1, 0);
        }
        x.file(1, 16, 1, 0);
        x.file(1, 17, 0, 0);
        for (int plugin = 0; plugin < 4; plugin++) {
            x.descriptor(0, plugin, 8 + plugin);
            x.descriptor(1, plugin + 4, 12 + plugin);
        }
        x.descriptor(2, 8, 16);
        x.descriptor(2, 9, 17);
        x.child(0);
        x.add(1, 0, true);
        x.add(1, 1, true);
        x.add(1, 2, true);
        x.lock(1);
        for (int plugin = 0; plugin < 8; plugin++) {
            Check.is("apply " + plugin, x.apply(1, plugin), 1);
        }
        Check.is("the eighth", x.applied(1, 7), 15);
        Check.is("a ninth", x.apply(1, 8), -3);
        Check.is("again", x.apply(1, 8), -3);
        Check.is("its class is defined", x.load(1, 16), 16);
        Check.is("one that was", x.apply(1, 7), 0);
        Check.is("one that is no plugin", x.apply(1, 9), -2);
        Check.is("no ninth", x.applied(1, 8), -1);
    }

    private static void failedLoads() {
        ScopeTree x = new ScopeTree();
        x.descriptor(0, 0, 8);
        x.descriptor(0, 1, 9);
        x.descriptor(0, 2, 10);
        x.file(0, 9, 63, 0);
        x.file(0, 10, 10, 0);
        x.child(0);
        x.add(1, 0, true);
        x.lock(1);
        Check.missing("no class file", () -> x.apply(1, 0));
        Check.refused("no super", () -> x.apply(1, 1));
        Check.refused("a circle", () -> x.apply(1, 2));
        Check.is("none applied", x.applied(1, 0), -1);
    }

    private static void wrongApplies() {
        ScopeTree x = new ScopeTree();
        x.child(0);
        Check.badArgument("scope -1", () -> x.apply(-1, 0));
        Check.badArgument("scope 2", () -> x.apply(2, 0));
        Check.badArgument("plugin -1", () -> x.apply(0, -1));
        Check.badArgument("plugin 10 comes before open", () -> x.apply(1, 10));
        Check.badState("open", () -> x.apply(1, 0));
        x.lock(1);
        Check.is("locked", x.apply(1, 0), -1);
        x.release(1);
        Check.badState("released", () -> x.apply(1, 0));
        Check.badArgument("applied, scope -1", () -> x.applied(-1, 0));
        Check.badArgument("applied, scope 2", () -> x.applied(2, 0));
        Check.is("applied, open or released", x.applied(1, 0), -1);
    }

    private static void releasedKeepsApplied() {
        ScopeTree x = new ScopeTree();
        x.file(0, 8, 1, 0);
        x.descriptor(0, 0, 8);
        x.child(0);
        x.add(1, 0, true);
        x.lock(1);
        x.apply(1, 0);
        x.release(1);
        Check.is("as it was applied", x.applied(1, 0), 8);
        Check.is("though it is gone", x.info(8, 1), -1);
    }
}
