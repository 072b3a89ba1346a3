import java.util.NoSuchElementException;

public final class ScopeTree {
    private static final int NAMES = 64;
    private static final int PLATFORM_NAMES = 8;
    private static final int PLUGIN_TYPE = 1;
    private static final int ARCHIVES = 10;
    private static final int PLUGINS = 10;
    private static final int VERSIONS = 10;
    private static final int PACKAGE_SETS = 256;
    private static final int MAX_FILES = 8;
    private static final int MAX_DESCRIPTORS = 4;
    private static final int MAX_PATH = 4;
    private static final int MAX_SCOPES = 12;
    private static final int MAX_APPLIED = 8;
    private static final int MAX_TYPES = 120;
    private static final int MAX_NESTED = 8;
    private static final int LOADER_NUMBERS = 41;
    private static final int LOADERS_OF_A_LOCK = 3;
    private static final int NONE = -1;

    private static final int ROOT = 0;
    private static final int DEFINING = 1;
    private static final int FILTERING = 2;

    private final Archive[] archives = new Archive[ARCHIVES];
    private final Scope[] scopes = new Scope[MAX_SCOPES];
    private int scopeCount;
    private final Loader[] loaders = new Loader[LOADER_NUMBERS];
    private final Type[] types = new Type[MAX_TYPES];
    private int typeCount;
    // The classes being defined, outermost first: by which loader, and of what name.
    private final Loader[] openLoaders = new Loader[MAX_NESTED];
    private final int[] openNames = new int[MAX_NESTED];

    public ScopeTree() {
        for (int i = 0; i < ARCHIVES; i++) {
            archives[i] = new Archive();
        }
        Loader root = new Loader(0, ROOT, null, new Archive[0], null);
        loaders[0] = root;
        for (int name = 0; name < PLATFORM_NAMES; name++) {
            types[name] = new Type(name, name, 0, root, null);
        }
        typeCount = PLATFORM_NAMES;
        Scope top = new Scope(null);
        top.state = State.LOCKED;
        // Scope 0 holds the root as its export and its local loader; it has no E.
        top.exportLoader = root;
        top.localLoader = root;
        root.holders = 2;
        scopes[0] = top;
        scopeCount = 1;
    }

    public int file(int archive, int name, int superName, int version)
            throws IllegalArgumentException, IllegalStateException {
        Archive target = archiveAt(archive);
        if (!isBelow(name, NAMES) || name < PLATFORM_NAMES) {
            throw new IllegalArgumentException("no name of a class file");
        }
        if (!isBelow(superName, NAMES) || !isBelow(version, VERSIONS)) {
            throw new IllegalArgumentException("no such super or version");
        }
        if (!target.putFile(new ClassFile(name, superName, version))) {
            throw new IllegalStateException("the archive is full of class files");
        }
        return target.fileCount;
    }

    public int descriptor(int archive, int plugin, int name)
            throws IllegalArgumentException, IllegalStateException {
        Archive target = archiveAt(archive);
        if (!isBelow(plugin, PLUGINS) || !isBelow(name, NAMES)) {
            throw new IllegalArgumentException("no such plugin or name");
        }
        if (!target.putDescriptor(new Descriptor(plugin, name))) {
            throw new IllegalStateException("the archive is full of descriptors");
        }
        return target.descriptorCount;
    }

    public void wipe(int archive) throws IllegalArgumentException {
        Archive target = archiveAt(archive);
        target.fileCount = 0;
        target.descriptorCount = 0;
    }

    public int child(int parent) throws IllegalArgumentException, IllegalStateException {
        Scope above = scopeAt(parent);
        if (above.state == State.RELEASED) {
            throw new IllegalArgumentException("the parent is released");
        }
        if (scopeCount >= MAX_SCOPES) {
            throw new IllegalStateException("no scope number is left");
        }
        scopes[scopeCount] = new Scope(above);
        scopeCount++;
        return scopeCount - 1;
    }

    public boolean add(int scope, int archive, boolean export)
            throws IllegalArgumentException, IllegalStateException {
        Scope target = scopeAt(scope);
        if (!isBelow(archive, ARCHIVES)) {
            throw new IllegalArgumentException("no such archive");
        }
        requireOpen(target);
        return export ? target.exportPath.append(archive) : target.localPath.append(archive);
    }

    public void filter(int scope, int packages, long allowed, long denied)
            throws IllegalArgumentException, IllegalStateException {
        Scope target = scopeAt(scope);
        if (!isBelow(packages, PACKAGE_SETS)) {
            throw new IllegalArgumentException("no such set of packages");
        }
        requireOpen(target);
        target.filter = new Filter(packages, allowed, denied);
    }

    public int lock(int scope)
            throws IllegalArgumentException, IllegalStateException, UnsupportedOperationException {
        Scope target = scopeAt(scope);
        requireOpen(target);
        Scope above = target.parent;
        if (above == null || above.state != State.LOCKED) {
            throw new IllegalStateException("the parent is not locked");
        }
        if (freeLoaderNumbers() < LOADERS_OF_A_LOCK) {
            throw new UnsupportedOperationException("too few loader numbers are free");
        }
        // New loaders take the least free number, so this order is part of the answer.
        target.baseLoader = wantedDefining(target.exportPath, above.exportLoader);
        target.exportLoader = wantedFiltering(target.filter, target.baseLoader);
        target.localLoader = wantedDefining(target.localPath, target.baseLoader);
        target.baseLoader.holders++;
        target.exportLoader.holders++;
        target.localLoader.holders++;
        target.state = State.LOCKED;
        return target.localLoader.number;
    }

    public int release(int scope) throws IllegalArgumentException, IllegalStateException {
        Scope target = scopeAt(scope);
        if (target.parent == null) {
            throw new IllegalArgumentException("scope 0 is never released");
        }
        if (target.state == State.RELEASED || hasChildLeft(target)) {
            throw new IllegalStateException("released, or a child is not");
        }
        boolean wasLocked = target.state == State.LOCKED;
        target.state = State.RELEASED;
        if (!wasLocked) {
            return 0;
        }
        return letGo(target.localLoader) + letGo(target.exportLoader) + letGo(target.baseLoader);
    }

    public int loader(int scope, boolean export) throws IllegalArgumentException {
        Scope target = scopeAt(scope);
        if (target.state != State.LOCKED) {
            return NONE;
        }
        return export ? target.exportLoader.number : target.localLoader.number;
    }

    public int look(int loader, int what) {
        if (!isBelow(loader, LOADER_NUMBERS) || loaders[loader] == null) {
            return NONE;
        }
        Loader target = loaders[loader];
        switch (what) {
            case 0:
                return target.kind;
            case 1:
                return target.parent == null ? NONE : target.parent.number;
            case 2:
                return target.holders;
            case 3:
                return target.definedCount;
            default:
                return NONE;
        }
    }

    public int load(int scope, int name)
            throws IllegalArgumentException, IllegalStateException, NoSuchElementException,
            UnsupportedOperationException {
        Scope target = scopeAt(scope);
        if (!isBelow(name, NAMES)) {
            throw new IllegalArgumentException("no such name");
        }
        requireLocked(target);
        return typeFromScope(target, name).number;
    }

    public int info(int type, int what) throws NoSuchElementException {
        Type target = typeAt(type);
        switch (what) {
            case 0:
                return target.name;
            case 1:
                return target.definer.isGone ? NONE : target.definer.number;
            case 2:
                return target.version;
            case 3:
                return target.superType == null ? NONE : target.superType.number;
            default:
                throw new NoSuchElementException("no such question about a class");
        }
    }

    public boolean isA(int type, int other) throws NoSuchElementException {
        return isSubtype(typeAt(type), typeAt(other));
    }

    public int apply(int scope, int plugin)
            throws IllegalArgumentException, IllegalStateException, NoSuchElementException,
            UnsupportedOperationException {
        Scope target = scopeAt(scope);
        if (!isBelow(plugin, PLUGINS)) {
            throw new IllegalArgumentException("no such plugin");
        }
        requireLocked(target);
        Descriptor found = visibleDescriptor(target.localLoader, plugin);
        if (found == null) {
            return -1;
        }
        Type type = typeFromScope(target, found.name);
        if (target.hasApplied(type)) {
            return 0;
        }
        if (!isSubtype(type, types[PLUGIN_TYPE])) {
            return -2;
        }
        return target.appendApplied(type) ? 1 : -3;
    }

    public int applied(int scope, int k) throws IllegalArgumentException {
        Scope target = scopeAt(scope);
        return isBelow(k, target.appliedCount) ? target.applied[k].number : NONE;
    }

    private static boolean isBelow(int number, int bound) {
        return number >= 0 && number < bound;
    }

    private Archive archiveAt(int archive) {
        if (!isBelow(archive, ARCHIVES)) {
            throw new IllegalArgumentException("no such archive");
        }
        return archives[archive];
    }

    private Scope scopeAt(int scope) {
        if (!isBelow(scope, scopeCount)) {
            throw new IllegalArgumentException("no such scope");
        }
        return scopes[scope];
    }

    // A class that is gone keeps its number and can still be asked about.
    private Type typeAt(int type) {
        if (!isBelow(type, typeCount)) {
            throw new NoSuchElementException("no such class");
        }
        return types[type];
    }

    private static void requireOpen(Scope scope) {
        if (scope.state != State.OPEN) {
            throw new IllegalStateException("the scope is locked or released");
        }
    }

    private static void requireLocked(Scope scope) {
        if (scope.state != State.LOCKED) {
            throw new IllegalStateException("the scope is not locked, or released");
        }
    }

    private boolean hasChildLeft(Scope parent) {
        for (int i = 0; i < scopeCount; i++) {
            if (scopes[i].parent == parent && scopes[i].state != State.RELEASED) {
                return true;
            }
        }
        return false;
    }

    private int freeLoaderNumbers() {
        int free = 0;
        for (int i = 1; i < LOADER_NUMBERS; i++) {
            if (loaders[i] == null) {
                free++;
            }
        }
        return free;
    }

    private Loader wantedDefining(Path path, Loader parent) {
        if (path.length == 0) {
            return parent;
        }
        Archive[] contents = contentsOf(path);
        for (int i = 1; i < LOADER_NUMBERS; i++) {
            Loader there = loaders[i];
            if (there != null && there.parent == parent && there.hasPathLike(contents)) {
                return there;
            }
        }
        return newLoader(DEFINING, parent, contents, null);
    }

    private Loader wantedFiltering(Filter filter, Loader parent) {
        if (filter == null) {
            return parent;
        }
        for (int i = 1; i < LOADER_NUMBERS; i++) {
            Loader there = loaders[i];
            if (there != null && there.parent == parent && filter.isSame(there.filter)) {
                return there;
            }
        }
        return newLoader(FILTERING, parent, new Archive[0], filter);
    }

    // Copies, because a loader keeps the files as they were.
    private Archive[] contentsOf(Path path) {
        Archive[] contents = new Archive[path.length];
        for (int i = 0; i < path.length; i++) {
            contents[i] = archives[path.archives[i]].copy();
        }
        return contents;
    }

    private Loader newLoader(int kind, Loader parent, Archive[] contents, Filter filter) {
        int number = leastFreeLoaderNumber();
        Loader made = new Loader(number, kind, parent, contents, filter);
        loaders[number] = made;
        parent.holders++;
        return made;
    }

    // A lock has made sure that there is one; the bound only keeps the index in the row.
    private int leastFreeLoaderNumber() {
        int number = 1;
        while (number < LOADER_NUMBERS - 1 && loaders[number] != null) {
            number++;
        }
        return number;
    }

    // One holder less; answers how many loaders are gone by that. The root always has scope 0.
    private int letGo(Loader loader) {
        int gone = 0;
        for (Loader at = loader; at != null; at = at.parent) {
            at.holders--;
            if (at.holders > 0) {
                break;
            }
            at.isGone = true;
            loaders[at.number] = null;
            gone++;
        }
        return gone;
    }

    private Type typeFromScope(Scope scope, int name) {
        Type found = findFrom(scope.localLoader, name, 0);
        if (found == null) {
            throw new NoSuchElementException("no class of that name is found");
        }
        return found;
    }

    // nested: how many classes are being defined around this search.
    private Type findFrom(Loader start, int name, int nested) {
        if (name < PLATFORM_NAMES) {
            return types[name];
        }
        for (Loader at = start; at != null; at = at.parent) {
            if (at.filter != null && !at.filter.admits(name)) {
                return null;
            }
            ClassFile file = at.fileOf(name);
            if (file != null) {
                return typeDefinedBy(at, file, nested);
            }
        }
        return null;
    }

    private Type typeDefinedBy(Loader definer, ClassFile file, int nested) {
        Type known = knownType(definer, file.name);
        if (known != null) {
            return known;
        }
        if (isBeingDefined(definer, file.name, nested)) {
            throw new UnsupportedOperationException("circular");
        }
        if (nested >= MAX_NESTED) {
            throw new UnsupportedOperationException("deep");
        }
        openLoaders[nested] = definer;
        openNames[nested] = file.name;
        Type superType = findFrom(definer, file.superName, nested + 1);
        if (superType == null) {
            throw new UnsupportedOperationException("link error");
        }
        return newType(file, definer, superType);
    }

    private Type knownType(Loader definer, int name) {
        for (int i = PLATFORM_NAMES; i < typeCount; i++) {
            if (types[i].definer == definer && types[i].name == name) {
                return types[i];
            }
        }
        return null;
    }

    private boolean isBeingDefined(Loader definer, int name, int nested) {
        for (int i = 0; i < nested; i++) {
            if (openLoaders[i] == definer && openNames[i] == name) {
                return true;
            }
        }
        return false;
    }

    private Type newType(ClassFile file, Loader definer, Type superType) {
        if (typeCount >= MAX_TYPES) {
            throw new UnsupportedOperationException("no class number is left");
        }
        Type made = new Type(typeCount, file.name, file.version, definer, superType);
        types[typeCount] = made;
        typeCount++;
        definer.definedCount++;
        return made;
    }

    private static boolean isSubtype(Type type, Type other) {
        for (Type at = type; at != null; at = at.superType) {
            if (at == other) {
                return true;
            }
        }
        return false;
    }

    private static Descriptor visibleDescriptor(Loader start, int plugin) {
        for (Loader at = start; at != null; at = at.parent) {
            Descriptor found = at.descriptorOf(plugin);
            if (found != null) {
                return isLetThrough(start, at, found.name) ? found : null;
            }
        }
        return null;
    }

    // Only the descriptor tells the name, so the filters on the way are asked after it is found.
    private static boolean isLetThrough(Loader start, Loader owner, int name) {
        if (name < PLATFORM_NAMES) {
            return true;
        }
        for (Loader at = start; at != null && at != owner; at = at.parent) {
            if (at.filter != null && !at.filter.admits(name)) {
                return false;
            }
        }
        return true;
    }

    private enum State { OPEN, LOCKED, RELEASED }

    private static record ClassFile(int name, int superName, int version) {
        private boolean isSame(ClassFile other) {
            return other != null && name == other.name && superName == other.superName
                    && version == other.version;
        }
    }

    private static record Descriptor(int plugin, int name) {
        private boolean isSame(Descriptor other) {
            return other != null && plugin == other.plugin && name == other.name;
        }
    }

    private static record Filter(int packages, long allowed, long denied) {
        private boolean admits(int name) {
            if (((denied >>> name) & 1L) != 0) {
                return false;
            }
            return ((allowed >>> name) & 1L) != 0 || ((packages >>> (name >> 3)) & 1) != 0;
        }

        private boolean isSame(Filter other) {
            return other != null && packages == other.packages && allowed == other.allowed
                    && denied == other.denied;
        }
    }

    private static final class Archive {
        private final ClassFile[] files = new ClassFile[MAX_FILES];
        private int fileCount;
        private final Descriptor[] descriptors = new Descriptor[MAX_DESCRIPTORS];
        private int descriptorCount;

        private ClassFile fileOf(int name) {
            int place = placeOfFile(name);
            return place < fileCount ? files[place] : null;
        }

        private Descriptor descriptorOf(int plugin) {
            int place = placeOfDescriptor(plugin);
            return place < descriptorCount ? descriptors[place] : null;
        }

        private boolean putFile(ClassFile file) {
            int place = placeOfFile(file.name);
            if (place >= MAX_FILES) {
                return false;
            }
            files[place] = file;
            fileCount = Math.max(fileCount, place + 1);
            return true;
        }

        private boolean putDescriptor(Descriptor descriptor) {
            int place = placeOfDescriptor(descriptor.plugin);
            if (place >= MAX_DESCRIPTORS) {
                return false;
            }
            descriptors[place] = descriptor;
            descriptorCount = Math.max(descriptorCount, place + 1);
            return true;
        }

        // Where it stands, or where it would be put.
        private int placeOfFile(int name) {
            int place = 0;
            while (place < fileCount && files[place].name != name) {
                place++;
            }
            return place;
        }

        private int placeOfDescriptor(int plugin) {
            int place = 0;
            while (place < descriptorCount && descriptors[place].plugin != plugin) {
                place++;
            }
            return place;
        }

        private Archive copy() {
            Archive made = new Archive();
            for (int i = 0; i < fileCount; i++) {
                made.files[i] = files[i];
            }
            for (int i = 0; i < descriptorCount; i++) {
                made.descriptors[i] = descriptors[i];
            }
            made.fileCount = fileCount;
            made.descriptorCount = descriptorCount;
            return made;
        }

        // No name and no plugin stands twice in an archive, so equal counts and one
        // direction of search are enough.
        private boolean isLike(Archive other) {
            if (fileCount != other.fileCount || descriptorCount != other.descriptorCount) {
                return false;
            }
            for (int i = 0; i < fileCount; i++) {
                if (!files[i].isSame(other.fileOf(files[i].name))) {
                    return false;
                }
            }
            for (int i = 0; i < descriptorCount; i++) {
                if (!descriptors[i].isSame(other.descriptorOf(descriptors[i].plugin))) {
                    return false;
                }
            }
            return true;
        }
    }

    private static final class Path {
        private final int[] archives = new int[MAX_PATH];
        private int length;

        private boolean append(int archive) {
            if (length >= MAX_PATH || contains(archive)) {
                return false;
            }
            archives[length] = archive;
            length++;
            return true;
        }

        private boolean contains(int archive) {
            for (int i = 0; i < length; i++) {
                if (archives[i] == archive) {
                    return true;
                }
            }
            return false;
        }
    }

    private static final class Loader {
        private final int number;
        private final int kind;
        private final Loader parent;
        private final Archive[] contents;
        private final Filter filter;
        private int holders;
        private int definedCount;
        private boolean isGone;

        private Loader(int number, int kind, Loader parent, Archive[] contents, Filter filter) {
            this.number = number;
            this.kind = kind;
            this.parent = parent;
            this.contents = contents;
            this.filter = filter;
        }

        private ClassFile fileOf(int name) {
            for (int i = 0; i < contents.length; i++) {
                ClassFile found = contents[i].fileOf(name);
                if (found != null) {
                    return found;
                }
            }
            return null;
        }

        private Descriptor descriptorOf(int plugin) {
            for (int i = 0; i < contents.length; i++) {
                Descriptor found = contents[i].descriptorOf(plugin);
                if (found != null) {
                    return found;
                }
            }
            return null;
        }

        private boolean hasPathLike(Archive[] other) {
            if (contents.length != other.length) {
                return false;
            }
            for (int i = 0; i < contents.length; i++) {
                if (!contents[i].isLike(other[i])) {
                    return false;
                }
            }
            return true;
        }
    }

    private static final class Type {
        private final int number;
        private final int name;
        private final int version;
        private final Loader definer;
        private final Type superType;

        private Type(int number, int name, int version, Loader definer, Type superType) {
            this.number = number;
            this.name = name;
            this.version = version;
            this.definer = definer;
            this.superType = superType;
        }
    }

    private static final class Scope {
        private final Scope parent;
        private final Path localPath = new Path();
        private final Path exportPath = new Path();
        private Filter filter;
        private State state = State.OPEN;
        // baseLoader is the document's E.
        private Loader baseLoader;
        private Loader exportLoader;
        private Loader localLoader;
        private final Type[] applied = new Type[MAX_APPLIED];
        private int appliedCount;

        private Scope(Scope parent) {
            this.parent = parent;
        }

        private boolean hasApplied(Type type) {
            for (int i = 0; i < appliedCount; i++) {
                if (applied[i] == type) {
                    return true;
                }
            }
            return false;
        }

        private boolean appendApplied(Type type) {
            if (appliedCount >= MAX_APPLIED) {
                return false;
            }
            applied[appliedCount] = type;
            appliedCount++;
            return true;
        }
    }
}
