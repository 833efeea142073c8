import java.lang.reflect.Field;

/** Reaches into an office, to break what no call can break. */
final class Inside {
    private Inside() {
    }

    /** What stands in a field of an object, or of one that stands in a field of it, and so on. */
    static Object of(Object object, String... fields) {
        Object inside = object;
        try {
            for (String name : fields) {
                Field field = inside.getClass().getDeclaredField(name);
                field.setAccessible(true);
                inside = field.get(inside);
            }
        } catch (ReflectiveOperationException e) {
            throw new IllegalStateException(e);
        }
        return inside;
    }
}
