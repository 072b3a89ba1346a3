/**
 * The edges of names, archives, class files and descriptors, and of promises 1 to 4. Each method
 * has the document's sentence above it.
 */
public final class ArchiveEdgesTest {
    public static void main(String[] args) {
        aNewObjectIsEmpty();
        archivesAreZeroToNine();
        filesAreOfNamesFromEightOn();
        supersAreNames();
        versionsAreZeroToNine();
        atMostEightFiles();
        oneFileForEachName();
        pluginsAreZeroToNine();
        descriptorsMayNameAnyClass();
        atMostFourDescriptors();
        oneDescriptorForEachPlugin();
        wipeTakesAllOut();
        emptyArchivesAreAlike();
        fullArchivesAreAlikeInAnyOrder();
        oneDifferenceInFullArchives();
        oneMoreIsNotAlike();
        Check.end();
    }

    /** A scope under scope 0, locked, with one archive as its local path. */
    private static int locked(ScopeTree x, int archive) {
        int scope = x.child(0);
        x.add(scope, archive, false);
        x.lock(scope);
        return scope;
    }

    // "Empty archives, scope 0, no class but the platform's."
    private static void aNewObjectIsEmpty() {
        ScopeTree x = new ScopeTree();
        for (int archive = 0; archive < 9; archive++) {
            int scope = locked(x, archive);
            Check.is("archive " + archive + " is as empty as the others", x.loader(scope, false), 1);
            Check.missing("a class of archive " + archive, () -> x.load(scope, 8));
            Check.is("a descriptor of archive " + archive, x.apply(scope, 0), -1);
        }
        Check.is("the first file of archive 9", x.file(9, 8, 0, 0), 1);
        Check.is("the first descriptor of archive 9", x.descriptor(9, 0, 0), 1);
        ScopeTree y = new ScopeTree();
        Check.is("scope 0 is there", y.loader(0, false), 0);
        Check.badArguments("scope", 0, 0, scope -> y.loader(scope, false));
        Check.is("the first child is scope 1", y.child(0), 1);
        Check.is("class 7 is there", y.info(7, 0), 7);
        Check.allMissing("class", 0, 7, type -> y.info(type, 0));
        for (int loader = 1; loader <= 40; loader++) {
            Check.is("no loader " + loader, y.look(loader, 0), -1);
        }
    }

    // "ARCHIVES 0 .. 9", "IllegalArgumentException when archive is not 0 .. 9", "when there is none"
    private static void archivesAreZeroToNine() {
        ScopeTree x = new ScopeTree();
        x.child(0);
        for (int archive : new int[] {0, 9}) {
            Check.is("file of archive " + archive, x.file(archive, 8, 0, 0), 1);
            Check.is("descriptor of archive " + archive, x.descriptor(archive, 0, 8), 1);
            x.wipe(archive);
            Check.is("file after wipe of " + archive, x.file(archive, 9, 0, 0), 1);
            Check.yes("add archive " + archive, x.add(1, archive, true));
        }
        Check.badArguments("file, archive", 0, 9, archive -> x.file(archive, 8, 0, 0));
        Check.badArguments("descriptor, archive", 0, 9, archive -> x.descriptor(archive, 0, 8));
        Check.badArguments("wipe, archive", 0, 9, archive -> x.wipe(archive));
        Check.badArguments("add, archive", 0, 9, archive -> x.add(1, archive, true));
        Check.badArguments("add to the local path, archive", 0, 9, archive -> x.add(1, archive, false));
    }

    // "a name from 8 on", "name not 8 .. 63"
    private static void filesAreOfNamesFromEightOn() {
        ScopeTree x = new ScopeTree();
        Check.is("name 8", x.file(0, 8, 0, 0), 1);
        Check.is("name 63", x.file(0, 63, 0, 0), 2);
        Check.badArguments("name", 8, 63, name -> x.file(0, name, 0, 0));
        for (int name = 0; name < 8; name++) {
            int platform = name;
            Check.badArgument("the platform's name " + name, () -> x.file(0, platform, 0, 0));
        }
        Check.is("none of these came in", x.file(0, 9, 0, 0), 3);
    }

    // "superName not 0 .. 63"
    private static void supersAreNames() {
        ScopeTree x = new ScopeTree();
        Check.is("super 0", x.file(0, 8, 0, 0), 1);
        Check.is("super 63", x.file(0, 9, 63, 0), 2);
        Check.is("super 7", x.file(0, 63, 7, 0), 3);
        Check.is("super 8", x.file(0, 10, 8, 0), 4);
        Check.badArguments("super", 0, 63, superName -> x.file(0, 11, superName, 0));
        Check.badArguments("super of one that is there", 0, 63, superName -> x.file(0, 8, superName, 0));
        int scope = locked(x, 0);
        Check.is("the super of 8 is as it was", x.info(x.load(scope, 8), 3), 0);
        Check.is("the super of 9 is class 63", x.info(x.info(x.load(scope, 9), 3), 0), 63);
        Check.missing("11 did not come in", () -> x.load(scope, 11));
    }

    // "version not 0 .. 9"
    private static void versionsAreZeroToNine() {
        ScopeTree x = new ScopeTree();
        Check.is("version 0", x.file(0, 8, 0, 0), 1);
        Check.is("version 9", x.file(0, 9, 0, 9), 2);
        Check.badArguments("version", 0, 9, version -> x.file(0, 10, 0, version));
        Check.badArguments("version of one that is there", 0, 9, version -> x.file(0, 9, 0, version));
        int scope = locked(x, 0);
        Check.is("version of 8", x.info(x.load(scope, 8), 2), 0);
        Check.is("version of 9", x.info(x.load(scope, 9), 2), 9);
        Check.missing("10 did not come in", () -> x.load(scope, 10));
    }

    // "CLASS FILES, at most 8", "IllegalStateException when it would have more than 8"
    private static void atMostEightFiles() {
        ScopeTree x = new ScopeTree();
        for (int i = 0; i < 8; i++) {
            Check.is("file " + i, x.file(0, 8 + i, 0, i), i + 1);
        }
        Check.badState("a ninth", () -> x.file(0, 16, 0, 0));
        Check.badState("a ninth, of the last name", () -> x.file(0, 63, 0, 0));
        for (int i = 0; i < 8; i++) {
            Check.is("in place of " + i, x.file(0, 8 + i, 1, 9 - i), 8);
        }
        Check.badState("a ninth, still", () -> x.file(0, 16, 0, 0));
        Check.is("descriptors have room of their own", x.descriptor(0, 0, 8), 1);
        int scope = locked(x, 0);
        for (int i = 0; i < 8; i++) {
            Check.is("file " + i + " is the newer one", x.info(x.load(scope, 8 + i), 2), 9 - i);
        }
        Check.missing("the ninth did not come in", () -> x.load(scope, 16));
        Check.missing("nor that of the last name", () -> x.load(scope, 63));
    }

    // "(one for each name)", "(in place of one of that name): how many it has"
    private static void oneFileForEachName() {
        ScopeTree x = new ScopeTree();
        for (int round = 0; round < 12; round++) {
            Check.is("the same name, round " + round, x.file(0, 63, 0, round % 10), 1);
        }
        Check.is("another name", x.file(0, 8, 0, 0), 2);
        Check.is("the first name again", x.file(0, 63, 8, 5), 2);
        Check.is("the same name in another archive", x.file(1, 63, 0, 0), 1);
        int scope = locked(x, 0);
        Check.is("the last one counts", x.info(x.load(scope, 63), 2), 5);
        Check.is("with its super", x.info(x.load(scope, 63), 3), x.load(scope, 8));
    }

    // "a plugin 0 .. 9", "IllegalArgumentException when archive or plugin is not 0 .. 9"
    private static void pluginsAreZeroToNine() {
        ScopeTree x = new ScopeTree();
        Check.is("plugin 0", x.descriptor(0, 0, 1), 1);
        Check.is("plugin 9", x.descriptor(0, 9, 1), 2);
        Check.badArguments("plugin", 0, 9, plugin -> x.descriptor(0, plugin, 1));
        Check.is("none of these came in", x.descriptor(0, 5, 1), 3);
    }

    // "the name of a class", "or name not 0 .. 63"
    private static void descriptorsMayNameAnyClass() {
        ScopeTree x = new ScopeTree();
        Check.is("name 0", x.descriptor(0, 0, 0), 1);
        Check.is("name 63", x.descriptor(0, 1, 63), 2);
        Check.is("name 7", x.descriptor(0, 2, 7), 3);
        Check.badArguments("name", 0, 63, name -> x.descriptor(0, 3, name));
        Check.badArguments("name of one that is there", 0, 63, name -> x.descriptor(0, 0, name));
        x.file(0, 63, 1, 0);
        int scope = locked(x, 0);
        Check.is("plugin 0 is as it was", x.apply(scope, 0), -2);
        Check.is("plugin 1 is class 63", x.apply(scope, 1), 1);
        Check.is("plugin 3 did not come in", x.apply(scope, 3), -1);
    }

    // "DESCRIPTORS, at most 4", "IllegalStateException when it would have more than 4"
    private static void atMostFourDescriptors() {
        ScopeTree x = new ScopeTree();
        for (int i = 0; i < 4; i++) {
            Check.is("descriptor " + i, x.descriptor(0, i, 0), i + 1);
        }
        Check.badState("a fifth", () -> x.descriptor(0, 4, 1));
        Check.badState("a fifth, of the last plugin", () -> x.descriptor(0, 9, 1));
        for (int i = 0; i < 4; i++) {
            Check.is("in place of " + i, x.descriptor(0, i, i == 3 ? 1 : 2), 4);
        }
        Check.badState("a fifth, still", () -> x.descriptor(0, 4, 1));
        Check.is("files have room of their own", x.file(0, 8, 0, 0), 1);
        int scope = locked(x, 0);
        Check.is("the fifth did not come in", x.apply(scope, 4), -1);
        Check.is("nor that of the last plugin", x.apply(scope, 9), -1);
        Check.is("the first is there", x.apply(scope, 0), -2);
        Check.is("the fourth is the newer one", x.apply(scope, 3), 1);
    }

    // "(one for each)", "(in place of one of that plugin): how many it has"
    private static void oneDescriptorForEachPlugin() {
        ScopeTree x = new ScopeTree();
        for (int round = 0; round < 6; round++) {
            Check.is("the same plugin, round " + round, x.descriptor(0, 9, 7 - round), 1);
        }
        Check.is("another plugin, the same name", x.descriptor(0, 8, 1), 2);
        Check.is("the first plugin again", x.descriptor(0, 9, 1), 2);
        Check.is("the same plugin in another archive", x.descriptor(1, 9, 1), 1);
        int scope = locked(x, 0);
        Check.is("the last one counts", x.apply(scope, 9), 1);
    }

    // "Takes all out of an archive."
    private static void wipeTakesAllOut() {
        ScopeTree x = new ScopeTree();
        x.wipe(0);
        Check.is("an empty one stays empty", x.file(0, 8, 0, 0), 1);
        Check.is("of both", x.descriptor(0, 0, 1), 1);
        for (int round = 0; round < 2; round++) {
            x.wipe(0);
            for (int i = 0; i < 8; i++) {
                Check.is("file " + i + " behind a wipe", x.file(0, 8 + i, 0, 0), i + 1);
            }
            for (int i = 0; i < 4; i++) {
                Check.is("descriptor " + i + " behind a wipe", x.descriptor(0, i, 1), i + 1);
            }
            Check.badState("it is full again", () -> x.file(0, 16, 0, 0));
            Check.badState("of both", () -> x.descriptor(0, 4, 1));
        }
        x.wipe(0);
        x.wipe(0);
        int scope = locked(x, 0);
        for (int i = 0; i < 8; i++) {
            int name = 8 + i;
            Check.missing("no file " + name, () -> x.load(scope, name));
        }
        for (int i = 0; i < 4; i++) {
            Check.is("no descriptor " + i, x.apply(scope, i), -1);
        }
    }

    // "Two archives are ALIKE if they have the same class files and descriptors": none, too.
    private static void emptyArchivesAreAlike() {
        ScopeTree x = new ScopeTree();
        x.file(1, 8, 0, 0);
        x.descriptor(1, 0, 8);
        x.wipe(1);
        Check.is("never filled", x.loader(locked(x, 0), false), 1);
        Check.is("wiped", x.loader(locked(x, 1), false), 1);
        x.descriptor(2, 0, 8);
        Check.is("a descriptor alone", x.loader(locked(x, 2), false), 2);
        x.file(3, 8, 0, 0);
        Check.is("a file alone", x.loader(locked(x, 3), false), 3);
    }

    private static void fill(ScopeTree x, int archive, boolean backwards) {
        for (int i = 0; i < 8; i++) {
            int k = backwards ? 7 - i : i;
            x.file(archive, 8 + 7 * k, k, k);
        }
        for (int i = 0; i < 4; i++) {
            int k = backwards ? 3 - i : i;
            x.descriptor(archive, 3 * k, 8 + 7 * k);
        }
    }

    // "the same class files and descriptors, in any order"
    private static void fullArchivesAreAlikeInAnyOrder() {
        ScopeTree x = new ScopeTree();
        fill(x, 0, false);
        fill(x, 1, true);
        Check.is("forwards", x.loader(locked(x, 0), false), 1);
        Check.is("backwards", x.loader(locked(x, 1), false), 1);
        x.file(2, 57, 0, 0);
        x.descriptor(2, 9, 0);
        fill(x, 2, false);
        x.descriptor(3, 9, 63);
        fill(x, 3, true);
        Check.is("some of them put twice", x.loader(locked(x, 2), false), 1);
        Check.is("some of them twice, backwards", x.loader(locked(x, 3), false), 1);
    }

    // "the same class files and descriptors": each part of each of them counts.
    private static void oneDifferenceInFullArchives() {
        for (int k = 0; k < 8; k++) {
            ScopeTree x = new ScopeTree();
            for (int archive = 0; archive < 6; archive++) {
                fill(x, archive, archive % 2 == 1);
            }
            x.file(1, 8 + 7 * k, 63, k);
            x.file(2, 8 + 7 * k, k, 9);
            if (k < 4) {
                x.descriptor(3, 3 * k, 63);
            } else {
                x.file(3, 8 + 7 * k, k, 8);
            }
            Check.is("all", x.loader(locked(x, 0), false), 1);
            Check.is("another super of file " + k, x.loader(locked(x, 1), false), 2);
            Check.is("another version of file " + k, x.loader(locked(x, 2), false), 3);
            Check.is("another descriptor or version " + k, x.loader(locked(x, 3), false), 4);
            otherNameOrPlugin(x, 4, k, true);
            otherNameOrPlugin(x, 5, k, false);
            Check.is("another name for file " + k, x.loader(locked(x, 4), false), 5);
            Check.is("another plugin for descriptor " + k % 4, x.loader(locked(x, 5), false), 6);
        }
    }

    private static void otherNameOrPlugin(ScopeTree x, int archive, int other, boolean isName) {
        x.wipe(archive);
        for (int k = 0; k < 8; k++) {
            x.file(archive, isName && k == other ? 9 : 8 + 7 * k, k, k);
        }
        for (int k = 0; k < 4; k++) {
            x.descriptor(archive, !isName && k == other % 4 ? 1 : 3 * k, 8 + 7 * k);
        }
    }

    // "the same": one more on either side is not.
    private static void oneMoreIsNotAlike() {
        ScopeTree x = new ScopeTree();
        for (int archive = 0; archive < 6; archive++) {
            x.file(archive, 8, 0, 0);
            x.descriptor(archive, 0, 8);
        }
        x.file(1, 9, 0, 0);
        x.descriptor(2, 1, 8);
        Check.is("one with a file more", x.loader(locked(x, 1), false), 1);
        Check.is("one with a descriptor more", x.loader(locked(x, 2), false), 2);
        Check.is("one with less than both", x.loader(locked(x, 0), false), 3);
        Check.is("that one again", x.loader(locked(x, 3), false), 3);
        x.file(4, 9, 0, 0);
        x.descriptor(5, 1, 8);
        Check.is("again a file more", x.loader(locked(x, 4), false), 1);
        Check.is("again a descriptor more", x.loader(locked(x, 5), false), 2);
    }
}
