import java.lang.reflect.Field;

/**
 * Takes loader numbers from inside an object. No run of calls takes more than 33 of the 40, since
 * eleven scopes can be locked and each has at most three loaders of its own; so what the document
 * says of the last numbers can be seen in this way alone.
 */
final class LoaderNumbers {
    private LoaderNumbers() {
    }

    static void take(ScopeTree tree, int first, int last) {
        Object[] row = row(tree);
        for (int number = first; number <= last; number++) {
            // The root has no parent, so it is never the loader that a lock wants.
            row[number] = row[0];
        }
    }

    static void giveBack(ScopeTree tree, int number) {
        row(tree)[number] = null;
    }

    private static Object[] row(ScopeTree tree) {
        try {
            Field field = ScopeTree.class.getDeclaredField("loaders");
            field.setAccessible(true);
            return (Object[]) field.get(tree);
        } catch (ReflectiveOperationException e) {
            throw new AssertionError("the row of loaders has another name now", e);
        }
    }
}
