import java.lang.reflect.InvocationTargetException;
import java.lang.reflect.Method;
import java.util.HashMap;
import java.util.Map;

/**
 * A new house that is talked to in lines: "newCase(0, 8, 50) = 0" asks and looks at the answer, which is a number or
 * the name of a constant; "newCase(0, 8, 50)" just asks. It keeps to the 512 calls that an object is promised for.
 */
final class Run {
    private static final int MOST_CALLS = 512;
    private static final Map<String, Method> METHODS = new HashMap<>();
    private static final Map<String, Long> NAMES = Map.of("BAD", Due.BAD, "NO", Due.NO, "FULL", Due.FULL,
            "NONE", Due.NONE, "NOTHING", Due.NOTHING, "INDEX", Due.INDEX, "SIZE", Due.SIZE);

    static {
        for (Method m : CourtHouse.class.getMethods()) {
            METHODS.put(m.getName(), m);
        }
    }

    private final Due d;
    private final CourtHouse x = new CourtHouse();
    private int calls;

    Run(Due d) {
        this.d = d;
    }

    Run go(String... lines) {
        for (String line : lines) {
            String[] parts = line.split(" = ");
            long got = ask(parts[0]);
            if (parts.length == 2) {
                d.due(line, got, number(parts[1]));
            }
        }
        return this;
    }

    long ask(String call) {
        calls++;
        if (calls > MOST_CALLS) {
            throw new IllegalStateException("a run of more than " + MOST_CALLS + " calls");
        }
        int open = call.indexOf('(');
        String inside = call.substring(open + 1, call.length() - 1).trim();
        String[] words = inside.isEmpty() ? new String[0] : inside.split(",");
        Object[] given = new Object[words.length];
        for (int i = 0; i < words.length; i++) {
            given[i] = Integer.parseInt(words[i].trim());
        }
        try {
            return (Long) METHODS.get(call.substring(0, open)).invoke(x, given);
        } catch (IllegalAccessException | InvocationTargetException e) {
            throw new IllegalStateException(call, e);
        }
    }

    static long number(String word) {
        Long named = NAMES.get(word.trim());
        return named == null ? Long.parseLong(word.trim()) : named;
    }
}
