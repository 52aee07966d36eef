import java.lang.reflect.InvocationTargetException;
import java.lang.reflect.Method;
import java.lang.reflect.Modifier;
import java.util.Arrays;
import java.util.HashMap;
import java.util.Map;

/** A new object, and calls on it that are told by name; it is used for no more than 512 of them. */
final class Run {
    private static final int MOST_CALLS = 512;
    private static final Map<String, Method> FACE = face();

    private final SpoonsLast x = new SpoonsLast();
    private int calls = 0;

    private static Map<String, Method> face() {
        Map<String, Method> face = new HashMap<>();
        for (Method m : SpoonsLast.class.getDeclaredMethods()) {
            if (Modifier.isPublic(m.getModifiers())) {
                face.put(m.getName(), m);
            }
        }
        return face;
    }

    static String told(String name, long... args) {
        String row = Arrays.toString(args);
        return name + "(" + row.substring(1, row.length() - 1) + ")";
    }

    int call(String name, long... args) {
        calls++;
        if (calls == MOST_CALLS + 1) {
            Due.due("calls on one object, the last of them " + told(name, args), calls, MOST_CALLS);
        }
        Method m = FACE.get(name);
        Object[] row = new Object[args.length];
        for (int i = 0; i < row.length; i++) {
            row[i] = m.getParameterTypes()[i] == long.class ? (Object) args[i] : (Object) Math.toIntExact(args[i]);
        }
        try {
            return (Integer) m.invoke(x, row);
        } catch (InvocationTargetException e) {
            Due.due(told(name, args) + " threw " + e.getCause(), 1, 0);
            return Integer.MIN_VALUE + 1;
        } catch (IllegalAccessException e) {
            throw new IllegalStateException(e);
        }
    }

    /** Makes a call whose answer is due to be that. */
    Run due(long want, String name, long... args) {
        Due.due(told(name, args), call(name, args), want);
        return this;
    }

    /** Makes a call whatever it answers. */
    Run make(String name, long... args) {
        call(name, args);
        return this;
    }

    /** Brings letters to THE TAPE, up to 8 a call. */
    Run feed(String letters) {
        for (int at = 0; at < letters.length(); at += 8) {
            int n = Math.min(8, letters.length() - at);
            long word = 0;
            for (int i = 0; i < n; i++) {
                word |= (long) letters.charAt(at + i) << 8 * i;
            }
            call("feed", word, n);
        }
        return this;
    }

    /** Makes letters the TEXT of a USE. */
    Run text(int use, String letters) {
        feed(letters);
        Due.due("text(" + use + ") of \"" + letters + "\"", call("text", use), 1);
        return this;
    }

    /** Letters that are no TEXT of a USE, by a FAULT. */
    Run fault(int fault, int use, String letters) {
        feed(letters);
        Due.due("text(" + use + ") of \"" + letters + "\"", call("text", use), -10 - fault);
        return this;
    }

    /** Lets so many HOURS pass, up to 60 a call. */
    Run pass(int hours) {
        for (int left = hours; left > 0; left -= 60) {
            call("hours", Math.min(60, left));
        }
        return this;
    }

    /** Fills a SHEET with numbers. */
    Run sheet(int sheet, int bits, int... numbers) {
        call("sheet", sheet, bits, numbers.length);
        for (int i = 0; i < numbers.length; i++) {
            call("put", sheet, i, numbers[i]);
        }
        return this;
    }
}
