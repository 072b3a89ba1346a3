/**
 * The edges of TO FIND and TO DEFINE, and of promises 12 to 14. Each method has the document's
 * sentence above it.
 */
public final class LoadEdgesTest {
    public static void main(String[] args) {
        loadAScopeThatIsThere();
        loadANameThatIsThere();
        loadWhileLocked();
        platformClassesFromAnyLoader();
        noneFromTheRoot();
        noneWhenNotAdmitted();
        theFirstArchiveThatHas();
        otherwiseFromTheParent();
        noneAtTheEndOfTheChain();
        linkErrors();
        circularAtAllLengths();
        likeNamesAreNoCircle();
        theNinthInOneAnother();
        whatIsDefinedIsNotInOneAnother();
        platformClassesAreNotInOneAnother();
        refusedDefinesLeaveNoClass();
        numbersAsTheyAreDefined();
        atMostOneHundredAndTwenty();
        theSuperTakesTheLastNumber();
        goneClassesKeepTheirNumbers();
        infoOfAClassThatIsThere();
        infoOfAnotherWhat();
        infoOfThePlatform();
        infoOfGoneClasses();
        isAOfClassesThatAreThere();
        isAUpToTheEnd();
        the512thCall();
        Check.end();
    }

    /** A scope under parent, locked, with these archives as its export path. */
    private static int locked(ScopeTree x, int parent, int... archives) {
        int scope = x.child(parent);
        for (int archive : archives) {
            x.add(scope, archive, true);
        }
        x.lock(scope);
        return scope;
    }

    /** Files first, first + 1, .. of which each has the next one as its super, and the last one last. */
    private static void chain(ScopeTree x, int archive, int first, int length, int last) {
        for (int i = 0; i < length; i++) {
            x.file(archive + i / 8, first + i, i == length - 1 ? last : first + i + 1, 0);
        }
    }

    // "IllegalArgumentException when there is no such scope .."
    private static void loadAScopeThatIsThere() {
        ScopeTree x = new ScopeTree();
        x.file(0, 8, 0, 0);
        locked(x, 0, 0);
        Check.badArguments("scope", 0, 1, scope -> x.load(scope, 8));
        Check.badArguments("scope, the platform's name", 0, 1, scope -> x.load(scope, 0));
        Check.is("the last one", x.load(1, 8), 8);
        Check.is("the first one", x.load(0, 0), 0);
    }

    // "CLASS NAMES are 0 .. 63", ".. or name"
    private static void loadANameThatIsThere() {
        ScopeTree x = new ScopeTree();
        x.file(0, 63, 0, 0);
        x.file(0, 8, 0, 0);
        locked(x, 0, 0);
        Check.badArguments("name", 0, 63, name -> x.load(1, name));
        Check.badArguments("name from scope 0", 0, 63, name -> x.load(0, name));
        Check.is("the last name", x.load(1, 63), 8);
        Check.is("the first name", x.load(1, 0), 0);
        Check.is("the first name of a file", x.load(1, 8), 9);
    }

    // "IllegalStateException when the scope is not locked, or released"
    private static void loadWhileLocked() {
        ScopeTree x = new ScopeTree();
        x.file(0, 8, 0, 0);
        x.child(0);
        x.add(1, 0, true);
        x.child(0);
        x.release(2);
        for (int name : new int[] {0, 7, 8, 63}) {
            Check.badState("open, name " + name, () -> x.load(1, name));
            Check.badState("released when open, name " + name, () -> x.load(2, name));
        }
        x.lock(1);
        Check.is("locked", x.load(1, 8), 8);
        x.release(1);
        for (int name : new int[] {0, 7, 8, 63}) {
            Check.badState("released when locked, name " + name, () -> x.load(1, name));
        }
        Check.is("no class came by the refused", x.info(8, 0), 8);
        Check.missing("no class 9", () -> x.info(9, 0));
    }

    // "0 .. 7 are the PLATFORM's", "of the platform: its platform class, from any loader"
    private static void platformClassesFromAnyLoader() {
        ScopeTree x = new ScopeTree();
        x.child(0);
        x.filter(1, 0, 0, -1L);
        x.lock(1);
        int filtered = locked(x, 1);
        int below = locked(x, filtered, 0);
        Check.is("its local loader is a filtering one", x.look(x.loader(filtered, false), 0), 2);
        Check.is("its local loader is a defining one", x.look(x.loader(below, false), 0), 1);
        for (int scope : new int[] {0, 1, filtered, below}) {
            for (int name = 0; name < 8; name++) {
                Check.is("from scope " + scope, x.load(scope, name), name);
            }
            Check.missing("8 is not the platform's, scope " + scope, () -> x.load(scope, 8));
        }
        Check.missing("no new class came", () -> x.info(8, 0));
    }

    // "ROOT: none"
    private static void noneFromTheRoot() {
        ScopeTree x = new ScopeTree();
        for (int name = 8; name < 64; name++) {
            int n = name;
            x.file(name / 8, name, 0, 0);
            Check.missing("name " + name, () -> x.load(0, n));
        }
    }

    // "FILTERING: if it admits the name, what is found from its parent; otherwise none."
    private static void noneWhenNotAdmitted() {
        ScopeTree x = new ScopeTree();
        x.file(0, 8, 0, 1);
        x.file(0, 9, 8, 2);
        x.child(0);
        x.add(1, 0, true);
        x.filter(1, 0, 1L << 9 | 1L << 10, 0);
        x.lock(1);
        int below = locked(x, 1);
        Check.missing("not admitted", () -> x.load(below, 8));
        Check.is("admitted, with a super that is not", x.load(below, 9), 9);
        Check.missing("admitted, but not found", () -> x.load(below, 10));
        Check.missing("not admitted, though it is defined", () -> x.load(below, 8));
        Check.is("not filtered", x.load(1, 8), 8);
    }

    // "if an archive of its path has a class file of that name (the first one that has)"
    private static void theFirstArchiveThatHas() {
        for (int first = 0; first < 4; first++) {
            ScopeTree x = new ScopeTree();
            for (int archive = first; archive < 4; archive++) {
                x.file(archive, 63, 0, archive + 1);
            }
            locked(x, 0, 0, 1, 2, 3);
            Check.is("the first is archive " + first, x.info(x.load(1, 63), 2), first + 1);
            Check.is("once", x.look(1, 3), 1);
        }
    }

    // "otherwise what is found from its parent"
    private static void otherwiseFromTheParent() {
        ScopeTree x = new ScopeTree();
        x.file(0, 8, 0, 1);
        x.file(1, 9, 0, 2);
        locked(x, 0, 0);
        for (int scope = 1; scope < 11; scope++) {
            locked(x, scope, 1);
        }
        Check.is("from ten loaders above", x.load(11, 8), 8);
        Check.is("defined there", x.info(8, 1), x.loader(1, false));
        Check.is("from the last one itself", x.load(11, 9), 9);
        Check.is("defined here", x.info(9, 1), x.loader(11, false));
        Check.is("the same from the middle", x.load(6, 8), 8);
        Check.is("its own", x.load(6, 9), 10);
    }

    // "NoSuchElementException when none is found"
    private static void noneAtTheEndOfTheChain() {
        ScopeTree x = new ScopeTree();
        x.file(0, 8, 0, 0);
        x.file(1, 10, 0, 0);
        int upper = locked(x, 0, 0);
        int lower = locked(x, upper, 1);
        Check.missing("in none of the archives", () -> x.load(lower, 9));
        Check.missing("in an archive of a loader below", () -> x.load(upper, 10));
        Check.missing("the last name", () -> x.load(lower, 63));
        Check.missing("no class came", () -> x.info(8, 0));
    }

    // "its super's name is found from this loader (and so on); if that is none: LINK ERROR"
    private static void linkErrors() {
        for (int length = 1; length <= 8; length++) {
            ScopeTree x = new ScopeTree();
            chain(x, 0, 8, length, 63);
            int upper = locked(x, 0, 0);
            x.file(5, 63, 0, 0);
            int lower = locked(x, upper, 5);
            for (int i = 0; i < length; i++) {
                int name = 8 + i;
                Check.refused("no super behind " + (length - i), () -> x.load(upper, name));
                Check.refused("a super below is none, behind " + (length - i), () -> x.load(lower, name));
            }
            Check.is("none is defined", x.look(x.loader(upper, false), 3), 0);
            Check.is("the one below", x.load(lower, 63), 8);
        }
        ScopeTree y = new ScopeTree();
        y.file(0, 8, 0, 0);
        y.file(1, 9, 8, 0);
        y.child(0);
        y.add(1, 0, true);
        y.filter(1, 255, 0, 1L << 8);
        y.lock(1);
        locked(y, 1, 1);
        Check.refused("a super that a filter holds back", () -> y.load(2, 9));
        y.load(1, 8);
        Check.refused("also when it is defined", () -> y.load(2, 9));
    }

    // "if it is a class that is being defined by that loader: CIRCULAR"
    private static void circularAtAllLengths() {
        for (int length = 1; length <= 9; length++) {
            ScopeTree x = new ScopeTree();
            chain(x, 0, 8, length, 8);
            locked(x, 0, 0, 1);
            for (int i = 0; i < length; i++) {
                int name = 8 + i;
                Check.refused("a circle of " + length + ", from " + i, () -> x.load(1, name));
            }
            Check.is("none is defined", x.look(1, 3), 0);
        }
        ScopeTree y = new ScopeTree();
        chain(y, 0, 8, 4, 11);
        locked(y, 0, 0);
        Check.refused("a circle of the last one", () -> y.load(1, 8));
        Check.refused("the last one", () -> y.load(1, 11));
    }

    // ".. by that loader": a like name by another one is not.
    private static void likeNamesAreNoCircle() {
        ScopeTree x = new ScopeTree();
        x.file(0, 8, 0, 1);
        x.file(0, 9, 8, 2);
        x.file(1, 8, 9, 3);
        int upper = locked(x, 0, 0);
        int lower = locked(x, upper, 1);
        Check.is("8 of the lower one under 8 of the upper", x.load(lower, 8), 10);
        Check.is("its super", x.info(10, 3), 9);
        Check.is("its super's super", x.info(9, 3), 8);
        Check.is("by the upper", x.info(8, 2), 1);
        Check.is("by the lower", x.info(10, 2), 3);
    }

    // "if it would be defined, and were the ninth in one another: DEEP"
    private static void theNinthInOneAnother() {
        for (int length = 7; length <= 10; length++) {
            ScopeTree x = new ScopeTree();
            chain(x, 0, 8, length, 0);
            locked(x, 0, 0, 1);
            if (length <= 8) {
                Check.is(length + " in one another", x.load(1, 8), 7 + length);
                Check.is("all are defined", x.look(1, 3), length);
            } else {
                Check.refused(length + " in one another", () -> x.load(1, 8));
                Check.is("none is defined", x.look(1, 3), 0);
                Check.is("eight of them", x.load(1, 8 + length - 8), 15);
            }
        }
        ScopeTree y = new ScopeTree();
        for (int scope = 1; scope <= 9; scope++) {
            y.file(scope, 8 + scope, scope == 1 ? 0 : 7 + scope, 0);
            locked(y, scope - 1, scope);
        }
        Check.refused("nine by nine loaders", () -> y.load(9, 17));
        Check.missing("none is defined", () -> y.info(8, 0));
        Check.is("eight by eight loaders", y.load(8, 16), 15);
        Check.is("then the ninth", y.load(9, 17), 16);
    }

    // "if it would be defined": one that is defined is not.
    private static void whatIsDefinedIsNotInOneAnother() {
        ScopeTree x = new ScopeTree();
        chain(x, 0, 8, 17, 0);
        locked(x, 0, 0, 1, 2);
        Check.refused("seventeen", () -> x.load(1, 8));
        Check.is("the last", x.load(1, 24), 8);
        Check.refused("sixteen above it", () -> x.load(1, 8));
        Check.refused("nine above it", () -> x.load(1, 15));
        Check.is("eight above it", x.load(1, 16), 16);
        Check.is("eight above these", x.load(1, 8), 24);
        Check.is("its super", x.info(24, 3), 23);
        Check.yes("up to the first", x.isA(24, 8));
    }

    // "of the platform: its platform class": it is not defined, so eight may stand on it.
    private static void platformClassesAreNotInOneAnother() {
        for (int name = 0; name < 8; name++) {
            ScopeTree x = new ScopeTree();
            chain(x, 0, 8, 8, name);
            locked(x, 0, 0);
            Check.is("eight on " + name, x.load(1, 8), 15);
            Check.yes("the first is one of " + name, x.isA(15, name));
        }
    }

    // "Then it is a new class.": not before, so a refused chain leaves none and takes no number.
    private static void refusedDefinesLeaveNoClass() {
        ScopeTree x = new ScopeTree();
        x.file(0, 8, 63, 0);
        x.file(0, 9, 9, 0);
        chain(x, 1, 16, 9, 0);
        x.file(0, 10, 0, 0);
        locked(x, 0, 0, 1, 2);
        for (int round = 0; round < 3; round++) {
            Check.refused("link error", () -> x.load(1, 8));
            Check.refused("circular", () -> x.load(1, 9));
            Check.refused("deep", () -> x.load(1, 16));
        }
        Check.missing("no class came", () -> x.info(8, 0));
        Check.is("the next class has the next number", x.load(1, 10), 8);
    }

    // "CLASSES have numbers: 0 .. 7 the platform's; others 8, 9, .. as they are defined"
    private static void numbersAsTheyAreDefined() {
        ScopeTree x = new ScopeTree();
        x.file(0, 63, 62, 0);
        x.file(0, 62, 61, 0);
        x.file(0, 61, 0, 0);
        x.file(0, 8, 61, 0);
        locked(x, 0, 0);
        Check.is("behind its supers", x.load(1, 63), 10);
        Check.is("its super", x.load(1, 62), 9);
        Check.is("the first", x.load(1, 61), 8);
        Check.is("the next", x.load(1, 8), 11);
        Check.is("not anew", x.load(1, 63), 10);
    }

    /** Archives 0 .. 3 with 32 names, 8 .. 39; scopes 1 .. 4, one below the other, with all of them. */
    private static ScopeTree withClasses(int count) {
        ScopeTree x = new ScopeTree();
        for (int i = 0; i < 32; i++) {
            x.file(i / 8, 8 + i, i % 2 == 0 ? 1 : 0, 0);
        }
        int made = 8;
        for (int scope = 1; scope <= 4; scope++) {
            locked(x, scope - 1, 0, 1, 2, 3);
            for (int name = 8; name < 40 && made < count; name++) {
                Check.is("class", x.load(scope, name), made);
                made++;
            }
        }
        return x;
    }

    // "at most 120 with the platform's", "UnsupportedOperationException .. when there are 120 classes"
    private static void atMostOneHundredAndTwenty() {
        ScopeTree x = withClasses(119);
        Check.missing("no class 119 yet", () -> x.info(119, 0));
        Check.is("the last one", x.load(4, 38), 119);
        Check.is("it is there", x.info(119, 0), 38);
        Check.refused("one more", () -> x.load(4, 39));
        Check.refused("again", () -> x.load(4, 39));
        Check.missing("no class 120", () -> x.info(120, 0));
        Check.is("its loader has not defined it", x.look(4, 3), 120 - 8 - 3 * 32);
        Check.is("one that is defined", x.load(4, 38), 119);
        Check.is("the first one", x.load(1, 8), 8);
        Check.is("the platform's", x.load(4, 7), 7);
        Check.missing("none is found", () -> x.load(4, 63));
    }

    // "What was defined on the way stays."
    private static void theSuperTakesTheLastNumber() {
        for (int free = 0; free <= 3; free++) {
            ScopeTree x = withClasses(120 - free);
            x.file(4, 50, 51, 5);
            x.file(4, 51, 52, 6);
            x.file(4, 52, 1, 7);
            int scope = locked(x, 4, 4);
            int loader = x.loader(scope, false);
            if (free == 3) {
                Check.is("three are free", x.load(scope, 50), 119);
            } else {
                Check.refused(free + " are free", () -> x.load(scope, 50));
            }
            Check.is("these stay, free " + free, x.look(loader, 3), free);
            for (int i = 0; i < free; i++) {
                Check.is("version of what stays", x.info(120 - free + i, 2), 7 - i);
                Check.is("it is found again", x.load(scope, 52 - i), 120 - free + i);
            }
            Check.missing("no class 120", () -> x.info(120, 0));
        }
    }

    // "its classes are GONE": their numbers are theirs, so they count among the 120.
    private static void goneClassesKeepTheirNumbers() {
        ScopeTree x = withClasses(120);
        x.release(4);
        Check.is("the last one is gone", x.info(119, 1), -1);
        int again = locked(x, 3, 0, 1, 2, 3);
        Check.refused("a new one", () -> x.load(again, 8));
        Check.is("one of another loader", x.load(3, 8), 8 + 2 * 32);
    }

    // "NoSuchElementException when there is no such class .."
    private static void infoOfAClassThatIsThere() {
        ScopeTree x = new ScopeTree();
        x.file(0, 63, 7, 9);
        locked(x, 0, 0);
        x.load(1, 63);
        for (int what = 0; what < 4; what++) {
            int w = what;
            Check.allMissing("what " + what + ", class", 0, 8, type -> x.info(type, w));
        }
        Check.is("name", x.info(8, 0), 63);
        Check.is("loader", x.info(8, 1), 1);
        Check.is("version", x.info(8, 2), 9);
        Check.is("super", x.info(8, 3), 7);
        x.load(1, 63);
        Check.missing("loaded again it is no new class", () -> x.info(9, 0));
    }

    // ".. or what"
    private static void infoOfAnotherWhat() {
        ScopeTree x = new ScopeTree();
        x.file(0, 8, 0, 0);
        locked(x, 0, 0);
        x.load(1, 8);
        Check.allMissing("what of a class", 0, 3, what -> x.info(8, what));
        Check.allMissing("what of the platform's", 0, 3, what -> x.info(0, what));
        x.release(1);
        Check.allMissing("what of a class that is gone", 0, 3, what -> x.info(8, what));
        Check.allMissing("what of none", 0, 3, what -> x.info(9, what));
    }

    // "(0 for the platform's ..)", "(0 for the platform's)", "(a class; -1 for the platform's)"
    private static void infoOfThePlatform() {
        ScopeTree x = new ScopeTree();
        for (int name = 0; name < 8; name++) {
            Check.is("name", x.info(name, 0), name);
            Check.is("loader", x.info(name, 1), 0);
            Check.is("version", x.info(name, 2), 0);
            Check.is("super", x.info(name, 3), -1);
        }
    }

    // "-1 when it is GONE"
    private static void infoOfGoneClasses() {
        ScopeTree x = new ScopeTree();
        x.file(0, 8, 2, 3);
        x.file(0, 9, 8, 4);
        locked(x, 0, 0);
        locked(x, 0, 0);
        x.load(1, 9);
        x.release(1);
        Check.is("another scope holds its loader", x.info(9, 1), 1);
        x.release(2);
        Check.is("gone", x.info(9, 1), -1);
        Check.is("its name", x.info(9, 0), 9);
        Check.is("its version", x.info(9, 2), 4);
        Check.is("its super", x.info(9, 3), 8);
        Check.is("the super's super", x.info(8, 3), 2);
        locked(x, 0, 0);
        Check.is("a new loader has its number", x.loader(3, false), 1);
        Check.is("the class stays gone", x.info(9, 1), -1);
    }

    // "NoSuchElementException when one is not there"
    private static void isAOfClassesThatAreThere() {
        ScopeTree x = new ScopeTree();
        x.file(0, 8, 0, 0);
        locked(x, 0, 0);
        x.load(1, 8);
        Check.allMissing("class", 0, 8, type -> x.isA(type, 0));
        Check.allMissing("other", 0, 8, other -> x.isA(8, other));
        Check.allMissing("both", 0, 8, both -> x.isA(both, both));
        Check.yes("the last one", x.isA(8, 8));
        Check.yes("the last and the first", x.isA(8, 0));
        Check.no("the first and the last", x.isA(0, 8));
    }

    // "Whether a class is another one, or its super is, and so on."
    private static void isAUpToTheEnd() {
        ScopeTree x = new ScopeTree();
        chain(x, 0, 8, 16, 3);
        locked(x, 0, 0, 1);
        x.load(1, 16);
        x.load(1, 8);
        for (int type = 8; type < 24; type++) {
            for (int other = 8; other < 24; other++) {
                Check.is(type + " is " + other, x.isA(type, other) ? 1 : 0, other <= type ? 1 : 0);
            }
            Check.yes(type + " is 3", x.isA(type, 3));
            Check.no(type + " is 0", x.isA(type, 0));
            Check.no("3 is " + type, x.isA(3, type));
        }
        x.release(1);
        Check.yes("gone ones, too", x.isA(23, 8));
        Check.no("gone ones, the other way", x.isA(8, 23));
        ScopeTree y = new ScopeTree();
        for (int type = 0; type < 8; type++) {
            for (int other = 0; other < 8; other++) {
                Check.is(type + " is " + other, y.isA(type, other) ? 1 : 0, other == type ? 1 : 0);
            }
        }
    }

    // "An object is used for at most 512 calls after it has been made"
    private static void the512thCall() {
        ScopeTree x = new ScopeTree();
        x.file(0, 8, 0, 9);
        x.child(0);
        x.add(1, 0, true);
        x.lock(1);
        for (int call = 5; call < 512; call++) {
            Check.missing("call " + call, () -> x.load(1, 63));
        }
        Check.is("the last call", x.load(1, 8), 8);
    }
}
