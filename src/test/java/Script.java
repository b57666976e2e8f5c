import java.lang.reflect.InvocationTargetException;
import java.lang.reflect.Method;
import java.util.ArrayList;
import java.util.HashMap;
import java.util.List;
import java.util.Map;

/**
 * Plays calls on one new object, written as the document writes its examples: "call(..) = result", each on a line
 * of its own or behind a semicolon. A call without a result must not throw; "9 times call(..)" makes it nine times.
 */
final class Script {
    private static final int MOST_CALLS = 512;
    private static final Map<String, Method> FACE = face();

    private final String name;
    private final Pirateindex x = new Pirateindex();
    private int calls = 0;

    Script(String name) {
        this.name = name;
    }

    /** A test of its own: a run of calls on a new object. */
    static void run(String name, String calls) {
        new Script(name).play(calls);
    }

    private static Map<String, Method> face() {
        Map<String, Method> face = new HashMap<>();
        for (Method method : Pirateindex.class.getMethods()) {
            if (method.getDeclaringClass() == Pirateindex.class) {
                face.put(method.getName(), method);
            }
        }
        return face;
    }

    Pirateindex object() {
        return x;
    }

    Script play(String text) {
        for (String part : text.split("[;\n]")) {
            if (!part.isBlank()) {
                playOne(part.strip());
            }
        }
        return this;
    }

    private void playOne(String part) {
        int times = 1;
        String rest = part;
        if (part.contains(" times ")) {
            times = Integer.parseInt(part.substring(0, part.indexOf(' ')));
            rest = part.substring(part.indexOf(" times ") + " times ".length());
        }
        int equals = rest.indexOf(" = ");
        String call = equals < 0 ? rest : rest.substring(0, equals);
        for (int i = 0; i < times; i++) {
            String answer = answer(call);
            if (equals >= 0) {
                Check.same(name + ": " + call, rest.substring(equals + " = ".length()), answer);
            } else if (answer.startsWith("throws")) {
                Check.same(name + ": " + call, "an answer", answer);
            }
        }
    }

    /** Makes a call and tells its answer. */
    String answer(String call) {
        calls++;
        if (calls > MOST_CALLS) {
            throw new IllegalStateException(name + ": the document promises nothing behind 512 calls");
        }
        int open = call.indexOf('(');
        Method method = FACE.get(call.substring(0, open));
        List<Object> numbers = new ArrayList<>();
        for (String number : call.substring(open + 1, call.indexOf(')')).split(",")) {
            if (!number.isBlank()) {
                numbers.add(Integer.valueOf(number.strip()));
            }
        }
        return Check.told(() -> made(method, numbers.toArray()));
    }

    private Object made(Method method, Object[] numbers) {
        try {
            return method.invoke(x, numbers);
        } catch (InvocationTargetException e) {
            if (e.getCause() instanceof RuntimeException thrown) {
                throw thrown;
            }
            throw new IllegalStateException(name + ": " + method.getName() + " ended otherwise", e);
        } catch (IllegalAccessException e) {
            throw new IllegalStateException(name + ": " + method.getName() + " is not public", e);
        }
    }

    /** The letters that the last refused merging, rebuilding or sailing left. */
    String causes() {
        StringBuilder row = new StringBuilder();
        int length = Integer.parseInt(answer("causes()"));
        for (int i = 0; i < length; i++) {
            row.append(answer("cause(" + i + ")"));
        }
        return row.toString();
    }

    /** All that can be seen of the object, and what some more calls answer: what it hides shows in those. */
    List<String> look() {
        List<String> seen = new ArrayList<>();
        lookAtSegments(seen);
        lookAtIslandsAndShips(seen);
        lookAtIndexAndMap(seen);
        tell(seen, "checksum()");
        tell(seen, "struckShare()");
        tell(seen, "meanSize()");
        goOn(seen);
        lookAtIslandsAndShips(seen);
        tell(seen, "isTrue()");
        return seen;
    }

    private void tell(List<String> seen, String call) {
        seen.add(call + " = " + answer(call));
    }

    private boolean isThrown(List<String> seen) {
        return seen.get(seen.size() - 1).contains("throws");
    }

    private void lookAtSegments(List<String> seen) {
        tell(seen, "segments()");
        int segments = Integer.parseInt(answer("segments()"));
        for (int i = 0; i < segments; i++) {
            String segment = answer("segment(" + i + ")");
            tell(seen, "size(" + segment + ")");
        }
        for (int find = 0; find < 120; find++) {
            tell(seen, "segmentOf(" + find + ")");
            if (seen.get(seen.size() - 1).endsWith("IndexOutOfBoundsException")) {
                return;
            }
        }
    }

    private void lookAtIslandsAndShips(List<String> seen) {
        for (int island = 0; island < 13; island++) {
            tell(seen, "isThere(" + island + ")");
            if (isThrown(seen)) {
                break;
            }
        }
        for (int ship = 0; ship < 6; ship++) {
            tell(seen, "at(" + ship + ")");
            tell(seen, "coins(" + ship + ")");
            tell(seen, "hasMap(" + ship + ")");
            if (isThrown(seen)) {
                break;
            }
        }
    }

    private void lookAtIndexAndMap(List<String> seen) {
        for (int word = 0; word < 3; word++) {
            tell(seen, "postings(" + word + ")");
            tell(seen, "weight(" + word + ")");
            for (int i = 0; i < 4; i++) {
                tell(seen, "posting(" + word + ", " + i + ")");
            }
        }
        tell(seen, "hits()");
        for (int i = 0; i < 3; i++) {
            tell(seen, "count(" + i + ")");
            tell(seen, "scoreBits(" + i + ")");
            tell(seen, "hit(0, " + i + ")");
        }
    }

    /** Which segment is open and which number comes next, what ships keep, where they came from, what they dug. */
    private void goOn(List<String> seen) {
        tell(seen, "wipe()");
        tell(seen, "rebuild()");
        tell(seen, "ship()");
        tell(seen, "island(50, 50, 1)");
        for (int ship = 0; ship < 3; ship++) {
            tell(seen, "dig(" + ship + ")");
        }
        for (int i = 0; i < 3; i++) {
            tell(seen, "find(0, 0, 0)");
            tell(seen, "segments()");
            tell(seen, "meanSize()");
        }
        for (int find = 0; find < 14; find++) {
            tell(seen, "strike(" + find + ")");
        }
        tell(seen, "checksum()");
        for (int i = 0; i < 13; i++) {
            tell(seen, "segment(" + i + ")");
        }
    }
}
