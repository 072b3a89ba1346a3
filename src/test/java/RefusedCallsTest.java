import java.util.ArrayList;
import java.util.List;
import java.util.NoSuchElementException;
import java.util.function.Consumer;
import java.util.function.Supplier;
import java.util.function.ToIntFunction;

/**
 * Calls that are refused change nothing: of two objects made alike one gets the call, and both
 * answer alike ever after. (Of one object they could not be asked twice: what they answer later
 * shows only in calls that change it.)
 */
public final class RefusedCallsTest {
    private static final Class<IllegalArgumentException> ARGUMENT = IllegalArgumentException.class;
    private static final Class<IllegalStateException> STATE = IllegalStateException.class;
    private static final Class<NoSuchElementException> MISSING = NoSuchElementException.class;
    private static final Class<UnsupportedOperationException> REFUSED = UnsupportedOperationException.class;

    public static void main(String[] args) {
        archivesAreLeftAlone();
        scopesAreLeftAlone();
        loadersAreLeftAlone();
        classesAreLeftAlone();
        appliedAreLeftAlone();
        callsThatOnlyAsk();
        falseAndMinusOne();
        whenThereAre12Scopes();
        whenThereAre120Classes();
        Check.end();
    }

    private static void archivesAreLeftAlone() {
        refused("file, archive -1", ARGUMENT, x -> x.file(-1, 8, 0, 0));
        refused("file, archive 10", ARGUMENT, x -> x.file(10, 8, 0, 0));
        refused("file, name 7", ARGUMENT, x -> x.file(4, 7, 0, 0));
        refused("file, name 64", ARGUMENT, x -> x.file(4, 64, 0, 0));
        refused("file, super -1", ARGUMENT, x -> x.file(1, 16, -1, 0));
        refused("file, super 64", ARGUMENT, x -> x.file(1, 16, 64, 0));
        refused("file, version -1", ARGUMENT, x -> x.file(1, 16, 0, -1));
        refused("file, version 10", ARGUMENT, x -> x.file(1, 16, 0, 10));
        refused("file, full", STATE, x -> x.file(0, 16, 0, 0));
        refused("descriptor, archive -1", ARGUMENT, x -> x.descriptor(-1, 0, 1));
        refused("descriptor, archive 10", ARGUMENT, x -> x.descriptor(10, 0, 1));
        refused("descriptor, plugin -1", ARGUMENT, x -> x.descriptor(1, -1, 1));
        refused("descriptor, plugin 10", ARGUMENT, x -> x.descriptor(1, 10, 1));
        refused("descriptor, name -1", ARGUMENT, x -> x.descriptor(1, 4, -1));
        refused("descriptor, name 64", ARGUMENT, x -> x.descriptor(1, 4, 64));
        refused("descriptor, full", STATE, x -> x.descriptor(0, 9, 1));
        refused("wipe -1", ARGUMENT, x -> x.wipe(-1));
        refused("wipe 10", ARGUMENT, x -> x.wipe(10));
    }

    private static void scopesAreLeftAlone() {
        refused("child of -1", ARGUMENT, x -> x.child(-1));
        refused("child of none", ARGUMENT, x -> x.child(7));
        refused("child of one released when open", ARGUMENT, x -> x.child(5));
        refused("child of one released when locked", ARGUMENT, x -> x.child(6));
        refused("add, scope -1", ARGUMENT, x -> x.add(-1, 0, true));
        refused("add, scope 7", ARGUMENT, x -> x.add(7, 0, true));
        refused("add, archive -1", ARGUMENT, x -> x.add(3, -1, true));
        refused("add, archive 10", ARGUMENT, x -> x.add(3, 10, false));
        refused("add, scope 0", STATE, x -> x.add(0, 1, true));
        refused("add, locked", STATE, x -> x.add(1, 1, true));
        refused("add, locked, local", STATE, x -> x.add(1, 1, false));
        refused("add, released", STATE, x -> x.add(5, 1, true));
        refused("filter, scope -1", ARGUMENT, x -> x.filter(-1, 0, 0, 0));
        refused("filter, scope 7", ARGUMENT, x -> x.filter(7, 0, 0, 0));
        refused("filter, packages -1", ARGUMENT, x -> x.filter(3, -1, 0, 0));
        refused("filter, packages 256", ARGUMENT, x -> x.filter(4, 256, 0, 0));
        refused("filter, scope 0", STATE, x -> x.filter(0, 0, 0, 0));
        refused("filter, locked", STATE, x -> x.filter(1, 0, 0, 0));
        refused("filter, released", STATE, x -> x.filter(6, 0, 0, 0));
    }

    // The lock that finds too few numbers stands in LockEdgesTest.
    private static void loadersAreLeftAlone() {
        refused("lock -1", ARGUMENT, x -> x.lock(-1));
        refused("lock 7", ARGUMENT, x -> x.lock(7));
        refused("lock 0", STATE, x -> x.lock(0));
        refused("lock, locked", STATE, x -> x.lock(1));
        refused("lock, released when open", STATE, x -> x.lock(5));
        refused("lock, released when locked", STATE, x -> x.lock(6));
        refused("lock, the parent is open", STATE, x -> x.lock(4));
        refused("release -1", ARGUMENT, x -> x.release(-1));
        refused("release 7", ARGUMENT, x -> x.release(7));
        refused("release 0", ARGUMENT, x -> x.release(0));
        refused("release, released when open", STATE, x -> x.release(5));
        refused("release, released when locked", STATE, x -> x.release(6));
        refused("release, a child is locked", STATE, x -> x.release(1));
        refused("release, a child is open", STATE, x -> x.release(3));
    }

    private static void classesAreLeftAlone() {
        refused("load, scope -1", ARGUMENT, x -> x.load(-1, 8));
        refused("load, scope 7", ARGUMENT, x -> x.load(7, 8));
        refused("load, name -1", ARGUMENT, x -> x.load(2, -1));
        refused("load, name 64", ARGUMENT, x -> x.load(2, 64));
        refused("load, open", STATE, x -> x.load(3, 8));
        refused("load, released", STATE, x -> x.load(6, 8));
        refused("load, none is found", MISSING, x -> x.load(2, 40));
        refused("load, link error", REFUSED, x -> x.load(2, 17));
        refused("load, circular", REFUSED, x -> x.load(2, 18));
        refused("load, deep", REFUSED, x -> x.load(2, 24));
    }

    private static void appliedAreLeftAlone() {
        refused("apply, scope -1", ARGUMENT, x -> x.apply(-1, 0));
        refused("apply, scope 7", ARGUMENT, x -> x.apply(7, 0));
        refused("apply, plugin -1", ARGUMENT, x -> x.apply(2, -1));
        refused("apply, plugin 10", ARGUMENT, x -> x.apply(2, 10));
        refused("apply, open", STATE, x -> x.apply(3, 0));
        refused("apply, released", STATE, x -> x.apply(6, 0));
        refused("apply, none is found", MISSING, x -> x.apply(2, 5));
        refused("apply, link error", REFUSED, x -> x.apply(2, 4));
        refused("apply, circular", REFUSED, x -> x.apply(2, 8));
        refused("apply, deep", REFUSED, x -> x.apply(2, 6));
    }

    private static void callsThatOnlyAsk() {
        refused("loader of -1", ARGUMENT, x -> x.loader(-1, true));
        refused("loader of 7", ARGUMENT, x -> x.loader(7, false));
        refused("applied of -1", ARGUMENT, x -> x.applied(-1, 0));
        refused("applied of 7", ARGUMENT, x -> x.applied(7, 0));
        refused("info of -1", MISSING, x -> x.info(-1, 0));
        refused("info of none", MISSING, x -> x.info(119, 0));
        refused("info of another what", MISSING, x -> x.info(8, 4));
        refused("isA of -1", MISSING, x -> x.isA(-1, 0));
        refused("isA of none", MISSING, x -> x.isA(0, 119));
        answered("look at none", -1, x -> x.look(41, 0));
        answered("look for another what", -1, x -> x.look(0, 4));
    }

    private static void falseAndMinusOne() {
        answered("add, in that path", 0, x -> x.add(3, 0, true) ? 1 : 0);
        answered("add, that has 4", 0, x -> x.add(3, 9, false) ? 1 : 0);
        answered("apply, no descriptor", -1, x -> x.apply(2, 9));
        answered("apply, it was", 0, x -> x.apply(2, 0));
        answered("apply, not a plugin", -2, x -> x.apply(2, 7));
    }

    private static void whenThereAre12Scopes() {
        Supplier<ScopeTree> twelve = () -> {
            ScopeTree x = ordinary();
            for (int scope = 7; scope < 12; scope++) {
                x.child(scope == 9 ? 3 : 0);
            }
            return x;
        };
        compared("child of 0, there are 12", twelve, STATE, x -> x.child(0));
        compared("child of 4, there are 12", twelve, STATE, x -> x.child(4));
        compared("child of 12, there are 12", twelve, ARGUMENT, x -> x.child(12));
    }

    private static void whenThereAre120Classes() {
        compared("load, there are 120", RefusedCallsTest::with120Classes, REFUSED, x -> x.load(4, 39));
        compared("apply, there are 120", RefusedCallsTest::with120Classes, REFUSED, x -> x.apply(4, 1));
    }

    /** Something of each kind: full archives, scopes in each state, classes, an applied plugin. */
    private static ScopeTree ordinary() {
        ScopeTree x = new ScopeTree();
        for (int i = 0; i < 8; i++) {
            x.file(0, 8 + i, i % 2, i);
            x.file(2, 24 + i, 25 + i, 0);
        }
        for (int i = 0; i < 4; i++) {
            x.descriptor(0, i, 9 + 2 * i);
        }
        x.file(1, 16, 9, 2);
        x.file(1, 17, 63, 3);
        x.file(1, 18, 18, 4);
        x.descriptor(1, 4, 17);
        x.descriptor(1, 5, 40);
        x.descriptor(1, 8, 18);
        x.file(3, 32, 1, 5);
        x.descriptor(3, 6, 24);
        x.descriptor(3, 7, 0);
        locked(x, 0, true, 0);
        locked(x, 1, true, 1, 2, 3);
        x.child(1);
        x.add(3, 0, true);
        x.add(3, 1, true);
        for (int archive = 4; archive < 8; archive++) {
            x.add(3, archive, false);
        }
        x.filter(3, 6, 1L << 40, 1L << 11);
        x.child(3);
        x.add(4, 3, true);
        x.child(0);
        x.release(5);
        locked(x, 0, false, 9);
        x.release(6);
        x.load(2, 16);
        x.load(1, 8);
        x.apply(2, 0);
        return x;
    }

    private static void locked(ScopeTree x, int parent, boolean hasFilter, int... archives) {
        int scope = x.child(parent);
        for (int archive : archives) {
            x.add(scope, archive, true);
        }
        if (hasFilter) {
            x.filter(scope, 254, 0, 0);
        }
        x.lock(scope);
    }

    private static ScopeTree with120Classes() {
        ScopeTree x = new ScopeTree();
        for (int i = 0; i < 32; i++) {
            x.file(i / 8, 8 + i, 1, 0);
        }
        x.descriptor(0, 0, 8);
        x.descriptor(0, 1, 39);
        int made = 8;
        for (int scope = 1; scope <= 4; scope++) {
            locked(x, scope - 1, false, 0, 1, 2, 3);
            for (int name = 8; name < 40 && made < 120; name++) {
                x.load(scope, name);
                made++;
            }
        }
        return x;
    }

    private static void refused(String what, Class<? extends RuntimeException> due, Consumer<ScopeTree> call) {
        compared(what, RefusedCallsTest::ordinary, due, call);
    }

    private static void compared(String what, Supplier<ScopeTree> made, Class<? extends RuntimeException> due,
            Consumer<ScopeTree> call) {
        ScopeTree x = made.get();
        Check.thrown(what, () -> call.accept(x), due);
        same(what, asked(x), asked(made.get()));
    }

    private static void answered(String what, int due, ToIntFunction<ScopeTree> call) {
        ScopeTree x = ordinary();
        Check.is(what, call.applyAsInt(x), due);
        same(what, asked(x), asked(ordinary()));
    }

    private static void same(String what, List<String> got, List<String> due) {
        for (int i = 0; i < due.size(); i++) {
            if (!got.get(i).equals(due.get(i))) {
                Check.yes(what + ": then " + got.get(i) + ", without it " + due.get(i), false);
                return;
            }
        }
    }

    /** What the object answers from now on; with what made it, it stays below 512 calls. */
    private static List<String> asked(ScopeTree x) {
        List<String> answers = new ArrayList<>();
        askScopesAndLoaders(x, answers);
        for (int type = 6; type < 13; type++) {
            int t = type;
            ask(answers, "info " + t, () -> x.info(t, 1));
        }
        for (int scope = 3; scope <= 4; scope++) {
            int s = scope;
            ask(answers, "lock " + s, () -> x.lock(s));
        }
        askForArchives(x, answers);
        askScopesAndLoaders(x, answers);
        for (int name = 8; name < 34; name++) {
            int n = name;
            ask(answers, "load 4, " + n, () -> x.load(4, n));
            ask(answers, "load 2, " + n, () -> x.load(2, n));
        }
        for (int plugin = 0; plugin < 10; plugin++) {
            int p = plugin;
            ask(answers, "apply 2, " + p, () -> x.apply(2, p));
            ask(answers, "apply 3, " + p, () -> x.apply(3, p));
        }
        for (int k = 0; k < 3; k++) {
            int at = k;
            ask(answers, "applied 2, " + at, () -> x.applied(2, at));
            ask(answers, "applied 3, " + at, () -> x.applied(3, at));
        }
        for (int scope = 8; scope > 0; scope--) {
            int s = scope;
            ask(answers, "release " + s, () -> x.release(s));
        }
        return answers;
    }

    private static void askScopesAndLoaders(ScopeTree x, List<String> answers) {
        for (int scope = 0; scope < 8; scope++) {
            int s = scope;
            ask(answers, "local " + s, () -> x.loader(s, false));
            ask(answers, "export " + s, () -> x.loader(s, true));
        }
        for (int loader = 0; loader < 10; loader++) {
            int l = loader;
            ask(answers, "parent " + l, () -> x.look(l, 1));
            ask(answers, "holders " + l, () -> x.look(l, 2));
            ask(answers, "defined " + l, () -> x.look(l, 3));
        }
    }

    /** A new scope with the archives, if there is one left, and how many they have. */
    private static void askForArchives(ScopeTree x, List<String> answers) {
        ask(answers, "child", () -> x.child(0));
        for (int archive : new int[] {0, 1, 3, 4}) {
            ask(answers, "add 7, " + archive, () -> x.add(7, archive, true) ? 1 : 0);
        }
        ask(answers, "lock 7", () -> x.lock(7));
        for (int name : new int[] {8, 9, 10, 15, 16, 32, 63}) {
            ask(answers, "version of 7, " + name, () -> x.info(x.load(7, name), 2));
            ask(answers, "super of 7, " + name, () -> x.info(x.load(7, name), 3));
        }
        for (int plugin = 0; plugin < 10; plugin++) {
            int p = plugin;
            ask(answers, "apply 7, " + p, () -> x.apply(7, p));
        }
        for (int archive = 0; archive < 10; archive++) {
            int a = archive;
            ask(answers, "file " + a, () -> x.file(a, 62, 0, 0));
            ask(answers, "descriptor " + a, () -> x.descriptor(a, 9, 0));
        }
    }

    private static void ask(List<String> answers, String what, Supplier<Integer> call) {
        String answer;
        try {
            answer = call.get().toString();
        } catch (RuntimeException e) {
            answer = e.getClass().getSimpleName();
        }
        answers.add(what + " " + answer);
    }
}
