import java.lang.reflect.InvocationTargetException;
import java.lang.reflect.Method;
import java.nio.charset.StandardCharsets;
import java.util.ArrayList;
import java.util.Arrays;
import java.util.List;
import java.util.TreeMap;

/** Calls of CirclePacker by name, and the answers as texts: a number, or the name of an exception. */
final class Calls {
    private static final TreeMap<String, Method> METHODS = new TreeMap<>();

    static {
        for (Method m : CirclePacker.class.getDeclaredMethods()) {
            if (java.lang.reflect.Modifier.isPublic(m.getModifiers())) {
                METHODS.put(m.getName(), m);
            }
        }
    }

    private Calls() {
    }

    static List<String> names() {
        return new ArrayList<>(METHODS.keySet());
    }

    static int parameters(String name) {
        return METHODS.get(name).getParameterCount();
    }

    static String answer(CirclePacker packer, String name, int... p) {
        Object[] boxed = Arrays.stream(p).boxed().toArray();
        try {
            Object value = METHODS.get(name).invoke(packer, boxed);
            return value instanceof Boolean ? ((Boolean) value ? "1" : "0") : value.toString();
        } catch (InvocationTargetException e) {
            return e.getCause().getClass().getSimpleName();
        } catch (IllegalAccessException e) {
            throw new IllegalStateException(e);
        }
    }

    static String answer(Model model, String name, int... p) {
        try {
            return Long.toString(model.call(name, p));
        } catch (IllegalStateException | IllegalArgumentException | IndexOutOfBoundsException e) {
            return e.getClass().getSimpleName();
        }
    }

    /** The arguments of the calls of feed() that append this text and zeros behind it. */
    static List<int[]> feeds(String text) {
        byte[] bytes = text.getBytes(StandardCharsets.ISO_8859_1);
        java.nio.ByteBuffer padded = java.nio.ByteBuffer.allocate((bytes.length + 19) / 20 * 20);
        padded.put(bytes);
        padded.rewind();
        List<int[]> all = new ArrayList<>();
        while (padded.hasRemaining()) {
            all.add(new int[] {padded.getInt(), padded.getInt(), padded.getInt(), padded.getInt(), padded.getInt()});
        }
        return all;
    }

    /** Puts a text into an empty buffer. */
    static void give(CirclePacker packer, String text) {
        for (int[] p : feeds(text)) {
            packer.feed(p[0], p[1], p[2], p[3], p[4]);
        }
        packer.truncate(text.length());
    }
}
