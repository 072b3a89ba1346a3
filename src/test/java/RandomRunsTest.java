import java.util.ArrayList;
import java.util.HashMap;
import java.util.List;
import java.util.Map;
import java.util.NoSuchElementException;
import java.util.Random;
import java.util.TreeMap;
import java.util.function.IntSupplier;

/**
 * Long runs of random calls, each answer held against a second model that keeps nothing it can
 * work out anew: contents are texts, and who holds what is counted from the scopes each time.
 */
public final class RandomRunsTest {
    private static final int RUNS = 1500;
    private static final int CALLS = 512;

    public static void main(String[] args) {
        Map<String, Integer> seen = new TreeMap<>();
        for (int seed = 0; seed < RUNS; seed++) {
            new Run(seed, seen).make();
        }
        // Runs that never get anywhere would prove nothing.
        for (String due : List.of("load class", "load NoSuchElementException",
                "load UnsupportedOperationException", "load IllegalStateException", "link error",
                "circular", "deep", "full", "apply 1", "apply 0", "apply -1", "apply -2", "apply -3",
                "apply NoSuchElementException", "apply UnsupportedOperationException",
                "release 0", "release 1", "release 2", "release 3", "shared", "stopped")) {
            Check.yes("seen in the runs: " + due, seen.containsKey(due));
        }
        Check.end();
    }

    private static final class Run {
        private final int seed;
        private final Random random;
        private final Map<String, Integer> seen;
        private final ScopeTree tree = new ScopeTree();
        private final Model model;
        private final int names;
        private int made = 0;

        Run(int seed, Map<String, Integer> seen) {
            this.seed = seed;
            this.seen = seen;
            this.random = new Random(seed);
            this.model = new Model(seen);
            this.names = 8 + (seed % 3 == 0 ? 6 : seed % 3 == 1 ? 20 : 56);
        }

        void make() {
            boolean isFull = seed % 4 == 1;
            if (isFull) {
                fillArchives();
                lockScopes();
            }
            while (made < CALLS) {
                call(isFull ? 36 + random.nextInt(64) : random.nextInt(100));
            }
        }

        /** Archives full of classes that mostly load, for runs that reach the limits. */
        private void fillArchives() {
            for (int archive = 0; archive < 7; archive++) {
                int a = archive;
                for (int i = 0; i < 8; i++) {
                    int name = 8 + a * 8 + i;
                    // Archive 1 goes on where archive 0 ends, so its classes may be too deep.
                    int superName = i == 0 && a != 1 ? 1 : name - 1;
                    same("file", () -> tree.file(a, name, superName, 0),
                            () -> model.file(a, name, superName, 0), a, name, superName, 0);
                }
                for (int i = 0; i < 4; i++) {
                    int plugin = (a * 4 + i) % 10;
                    int name = 8 + a * 8 + 7 - i;
                    same("descriptor", () -> tree.descriptor(a, plugin, name),
                            () -> model.descriptor(a, plugin, name), a, plugin, name);
                }
            }
        }

        private void lockScopes() {
            for (int scope = 1; scope < 8; scope++) {
                int s = scope;
                int parent = random.nextInt(s);
                same("child", () -> tree.child(parent), () -> model.child(parent), parent);
                for (int i = 0; i < 6; i++) {
                    int a = random.nextInt(7);
                    boolean export = i < 4;
                    same("add", () -> tree.add(s, a, export) ? 1 : 0,
                            () -> model.add(s, a, export) ? 1 : 0, s, a, export ? 1 : 0);
                }
                same("lock", () -> tree.lock(s), () -> model.lock(s), s);
            }
        }

        /** Mostly a number below bound; now and then one at or beyond its edges. */
        private int about(int bound) {
            int dice = random.nextInt(60);
            return dice == 0 ? -1 : dice == 1 ? bound : dice == 2 ? random.nextInt() : random.nextInt(bound);
        }

        private int scope() {
            return random.nextInt(30) == 0 ? about(13) : about(Math.max(1, model.scopes.size()));
        }

        private void call(int kind) {
            int a = about(10);
            int s = scope();
            int n = random.nextInt(6) == 0 ? about(64) : about(names);
            if (kind < 12) {
                int name = Math.max(n, random.nextInt(9));
                int superName = random.nextInt(3) == 0 ? random.nextInt(8) : Math.floorMod(about(names), 70);
                int version = about(random.nextInt(2) == 0 ? 10 : 1);
                same("file", () -> tree.file(a, name, superName, version),
                        () -> model.file(a, name, superName, version), a, name, superName, version);
            } else if (kind < 18) {
                int p = about(10);
                same("descriptor", () -> tree.descriptor(a, p, n), () -> model.descriptor(a, p, n), a, p, n);
            } else if (kind < 19) {
                same("wipe", () -> none(() -> tree.wipe(a)), () -> none(() -> model.wipe(a)), a);
            } else if (kind < 22) {
                same("child", () -> tree.child(s), () -> model.child(s), s);
            } else if (kind < 34) {
                boolean export = random.nextBoolean();
                same("add", () -> tree.add(s, a, export) ? 1 : 0,
                        () -> model.add(s, a, export) ? 1 : 0, s, a, export ? 1 : 0);
            } else if (kind < 36) {
                int packages = random.nextInt(3) == 0 ? about(256) : 254;
                long allowed = random.nextBoolean() ? 0 : random.nextLong();
                long denied = random.nextBoolean() ? 0 : random.nextLong() & random.nextLong();
                same("filter", () -> none(() -> tree.filter(s, packages, allowed, denied)),
                        () -> none(() -> model.filter(s, packages, allowed, denied)), s, packages, allowed, denied);
            } else if (kind < 42) {
                same("lock", () -> tree.lock(s), () -> model.lock(s), s);
            } else if (kind < 44) {
                int low = random.nextInt(3) == 0 ? s : model.scopes.size() - 1;
                same("release", () -> tree.release(low), () -> model.release(low), low);
            } else if (kind < 46) {
                boolean export = random.nextBoolean();
                same("loader", () -> tree.loader(s, export), () -> model.loader(s, export), s, export ? 1 : 0);
            } else if (kind < 52) {
                int l = random.nextInt(3) == 0 ? about(41) : about(8);
                int w = about(4);
                same("look", () -> tree.look(l, w), () -> model.look(l, w), l, w);
            } else if (kind < 76) {
                same("load", () -> tree.load(s, n), () -> model.load(s, n), s, n);
            } else if (kind < 82) {
                int t = about(Math.max(8, model.types.size()));
                int w = about(4);
                same("info", () -> tree.info(t, w), () -> model.info(t, w), t, w);
            } else if (kind < 86) {
                int t = about(model.types.size());
                int o = about(random.nextBoolean() ? 8 : model.types.size());
                same("isA", () -> tree.isA(t, o) ? 1 : 0, () -> model.isA(t, o) ? 1 : 0, t, o);
            } else if (kind < 97) {
                int p = about(10);
                same("apply", () -> tree.apply(s, p), () -> model.apply(s, p), s, p);
            } else {
                int k = about(9);
                same("applied", () -> tree.applied(s, k), () -> model.applied(s, k), s, k);
            }
        }

        private static int none(Runnable call) {
            call.run();
            return 0;
        }

        private void same(String call, IntSupplier real, IntSupplier due, long... arguments) {
            made++;
            String want = answer(due);
            String got = answer(real);
            String kind = call.equals("load") && Character.isDigit(want.charAt(0)) ? "class" : want;
            seen.merge(call + " " + kind, 1, Integer::sum);
            if (!got.equals(want)) {
                Check.is("run " + seed + ", call " + made + ": " + call + java.util.Arrays.toString(arguments)
                        + " gave " + got + " instead of " + want, 1, 0);
                Check.end();
            }
        }

        private static String answer(IntSupplier call) {
            try {
                return Integer.toString(call.getAsInt());
            } catch (RuntimeException e) {
                return e.getClass().getSimpleName();
            }
        }
    }

    /** Files by name, each a super and a version; descriptors by plugin. */
    private record Content(TreeMap<Integer, int[]> files, TreeMap<Integer, Integer> descriptors) {
        Content frozen() {
            return new Content(new TreeMap<>(files), new TreeMap<>(descriptors));
        }

        String text() {
            StringBuilder text = new StringBuilder();
            files.forEach((name, file) -> text.append(name + "<" + file[0] + "@" + file[1] + " "));
            return text + "/" + descriptors;
        }
    }

    private static final class MScope {
        int parent = -1;
        boolean locked;
        boolean released;
        List<Integer> local = new ArrayList<>();
        List<Integer> export = new ArrayList<>();
        long[] filter;
        List<MLoader> held = new ArrayList<>();
        List<Integer> applied = new ArrayList<>();
    }

    private static final class MLoader {
        MLoader parent;
        List<Content> path;
        long[] filter;
        String text = "root";
    }

    private record MType(int name, MLoader loader, int version, int superType) {
    }

    private static final class Model {
        final List<Content> archives = new ArrayList<>();
        final List<MScope> scopes = new ArrayList<>();
        final MLoader[] loaders = new MLoader[41];
        final List<MType> types = new ArrayList<>();
        final Map<String, Integer> seen;

        Model(Map<String, Integer> seen) {
            this.seen = seen;
            for (int i = 0; i < 10; i++) {
                archives.add(new Content(new TreeMap<>(), new TreeMap<>()));
            }
            loaders[0] = new MLoader();
            for (int i = 0; i < 8; i++) {
                types.add(new MType(i, loaders[0], 0, -1));
            }
            MScope top = new MScope();
            top.locked = true;
            top.held = List.of(loaders[0], loaders[0]);
            scopes.add(top);
        }

        private static void argument(boolean good) {
            if (!good) {
                throw new IllegalArgumentException();
            }
        }

        private static void state(boolean good) {
            if (!good) {
                throw new IllegalStateException();
            }
        }

        private static boolean in(int number, int from, int to) {
            return from <= number && number <= to;
        }

        private MScope at(int scope) {
            argument(in(scope, 0, scopes.size() - 1));
            return scopes.get(scope);
        }

        int file(int archive, int name, int superName, int version) {
            argument(in(archive, 0, 9) && in(name, 8, 63) && in(superName, 0, 63) && in(version, 0, 9));
            TreeMap<Integer, int[]> files = archives.get(archive).files();
            state(files.containsKey(name) || files.size() < 8);
            files.put(name, new int[] {superName, version});
            return files.size();
        }

        int descriptor(int archive, int plugin, int name) {
            argument(in(archive, 0, 9) && in(plugin, 0, 9) && in(name, 0, 63));
            TreeMap<Integer, Integer> descriptors = archives.get(archive).descriptors();
            state(descriptors.containsKey(plugin) || descriptors.size() < 4);
            descriptors.put(plugin, name);
            return descriptors.size();
        }

        void wipe(int archive) {
            argument(in(archive, 0, 9));
            archives.get(archive).files().clear();
            archives.get(archive).descriptors().clear();
        }

        int child(int parent) {
            argument(!at(parent).released);
            state(scopes.size() < 12);
            MScope made = new MScope();
            made.parent = parent;
            scopes.add(made);
            return scopes.size() - 1;
        }

        boolean add(int scope, int archive, boolean export) {
            MScope target = at(scope);
            argument(in(archive, 0, 9));
            state(!target.locked && !target.released);
            List<Integer> path = export ? target.export : target.local;
            return path.size() < 4 && !path.contains(archive) && path.add(archive);
        }

        void filter(int scope, int packages, long allowed, long denied) {
            MScope target = at(scope);
            argument(in(packages, 0, 255));
            state(!target.locked && !target.released);
            target.filter = new long[] {packages, allowed, denied};
        }

        int lock(int scope) {
            MScope target = at(scope);
            state(!target.locked && !target.released && scopes.get(target.parent).locked);
            int free = 0;
            for (int i = 1; i <= 40; i++) {
                free += loaders[i] == null ? 1 : 0;
            }
            if (free < 3) {
                throw new UnsupportedOperationException();
            }
            MLoader base = defining(target.export, scopes.get(target.parent).held.get(1));
            MLoader export = target.filter == null ? base : wanted(base, null, target.filter);
            MLoader local = defining(target.local, base);
            target.held = List.of(local, export, base);
            target.locked = true;
            return number(local);
        }

        private MLoader defining(List<Integer> path, MLoader parent) {
            List<Content> contents = new ArrayList<>();
            for (int archive : path) {
                contents.add(archives.get(archive).frozen());
            }
            return path.isEmpty() ? parent : wanted(parent, contents, null);
        }

        private MLoader wanted(MLoader parent, List<Content> path, long[] filter) {
            MLoader made = new MLoader();
            made.parent = parent;
            made.path = path;
            made.filter = filter;
            made.text = path == null ? java.util.Arrays.toString(filter) : path.stream().map(Content::text).toList().toString();
            for (MLoader there : loaders) {
                if (there != null && there.parent == parent && there.text.equals(made.text)) {
                    seen.merge("shared", 1, Integer::sum);
                    return there;
                }
            }
            int number = 1;
            while (loaders[number] != null) {
                number++;
            }
            loaders[number] = made;
            return made;
        }

        private int number(MLoader loader) {
            return java.util.Arrays.asList(loaders).indexOf(loader);
        }

        int release(int scope) {
            MScope target = at(scope);
            argument(scope != 0);
            state(!target.released);
            for (MScope other : scopes) {
                state(other.parent != scope || other.released);
            }
            target.released = true;
            target.locked = false;
            target.held = List.of();
            Map<MLoader, Boolean> reached = new HashMap<>();
            for (MScope other : scopes) {
                for (MLoader held : other.held) {
                    for (MLoader l = held; l != null; l = l.parent) {
                        reached.put(l, true);
                    }
                }
            }
            int gone = 0;
            for (int i = 0; i <= 40; i++) {
                if (loaders[i] != null && !reached.containsKey(loaders[i])) {
                    loaders[i] = null;
                    gone++;
                }
            }
            return gone;
        }

        int loader(int scope, boolean export) {
            MScope target = at(scope);
            return target.locked ? number(target.held.get(export ? 1 : 0)) : -1;
        }

        int look(int loader, int what) {
            if (!in(loader, 0, 40) || loaders[loader] == null) {
                return -1;
            }
            MLoader target = loaders[loader];
            if (what == 0) {
                return target.path != null ? 1 : target.filter != null ? 2 : 0;
            }
            if (what == 1) {
                return target.parent == null ? -1 : number(target.parent);
            }
            int count = 0;
            if (what == 2) {
                for (MLoader other : loaders) {
                    count += other != null && other.parent == target ? 1 : 0;
                }
                for (MScope scope : scopes) {
                    for (MLoader held : scope.held) {
                        count += held == target ? 1 : 0;
                    }
                }
                return count;
            }
            if (what == 3) {
                for (MType type : types.subList(8, types.size())) {
                    count += type.loader() == target ? 1 : 0;
                }
                return count;
            }
            return -1;
        }

        int load(int scope, int name) {
            MScope target = at(scope);
            argument(in(name, 0, 63));
            state(target.locked);
            return loadFrom(target, name);
        }

        private int loadFrom(MScope scope, int name) {
            int found = find(scope.held.get(0), name, List.of());
            if (found < 0) {
                throw new NoSuchElementException();
            }
            return found;
        }

        private static boolean admits(long[] filter, int name) {
            boolean isDenied = (filter[2] & 1L << name) != 0;
            boolean isAllowed = (filter[1] & 1L << name) != 0;
            boolean isOfPackage = (filter[0] & 1L << name / 8) != 0;
            return !isDenied && (isAllowed || isOfPackage);
        }

        private int find(MLoader from, int name, List<MType> open) {
            if (name < 8) {
                return name;
            }
            if (from.parent == null) {
                return -1;
            }
            if (from.filter != null) {
                return admits(from.filter, name) ? find(from.parent, name, open) : -1;
            }
            for (Content content : from.path) {
                if (content.files().containsKey(name)) {
                    return define(from, name, content.files().get(name), open);
                }
            }
            return find(from.parent, name, open);
        }

        private int define(MLoader by, int name, int[] file, List<MType> open) {
            for (int i = 0; i < types.size(); i++) {
                if (types.get(i).loader() == by && types.get(i).name() == name) {
                    return i;
                }
            }
            for (MType other : open) {
                refuse("circular", other.loader() == by && other.name() == name);
            }
            refuse("deep", open.size() == 8);
            List<MType> more = new ArrayList<>(open);
            more.add(new MType(name, by, 0, 0));
            int superType = find(by, file[0], more);
            refuse("link error", superType < 0);
            refuse("full", types.size() == 120);
            types.add(new MType(name, by, file[1], superType));
            return types.size() - 1;
        }

        private void refuse(String why, boolean holds) {
            if (holds) {
                seen.merge(why, 1, Integer::sum);
                throw new UnsupportedOperationException();
            }
        }

        private MType type(int type) {
            if (!in(type, 0, types.size() - 1)) {
                throw new NoSuchElementException();
            }
            return types.get(type);
        }

        int info(int type, int what) {
            MType target = type(type);
            if (!in(what, 0, 3)) {
                throw new NoSuchElementException();
            }
            return new int[] {target.name(), number(target.loader()), target.version(), target.superType()}[what];
        }

        boolean isA(int type, int other) {
            type(other);
            return type == other || type(type).superType() >= 0 && isA(type(type).superType(), other);
        }

        private int plugin(MLoader from, int plugin) {
            if (from.parent == null) {
                return -1;
            }
            if (from.filter != null) {
                int name = plugin(from.parent, plugin);
                boolean isStopped = name >= 8 && !admits(from.filter, name);
                seen.merge(isStopped ? "stopped" : "let through", 1, Integer::sum);
                return isStopped ? -1 : name;
            }
            for (Content content : from.path) {
                if (content.descriptors().containsKey(plugin)) {
                    return content.descriptors().get(plugin);
                }
            }
            return plugin(from.parent, plugin);
        }

        int apply(int scope, int plugin) {
            MScope target = at(scope);
            argument(in(plugin, 0, 9));
            state(target.locked);
            int name = plugin(target.held.get(0), plugin);
            if (name < 0) {
                return -1;
            }
            int type = loadFrom(target, name);
            if (target.applied.contains(type)) {
                return 0;
            }
            if (!isA(type, 1)) {
                return -2;
            }
            if (target.applied.size() == 8) {
                return -3;
            }
            target.applied.add(type);
            return 1;
        }

        int applied(int scope, int k) {
            MScope target = at(scope);
            return in(k, 0, target.applied.size() - 1) ? target.applied.get(k) : -1;
        }
    }
}
