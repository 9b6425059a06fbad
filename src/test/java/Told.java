import java.lang.reflect.InvocationTargetException;
import java.lang.reflect.Method;
import java.lang.reflect.Modifier;
import java.util.HashMap;
import java.util.Map;

/** Calls told in words, as "place 0 7 1" or "open 0 true", and runs of them, each with a semicolon behind it. */
final class Told {
    static final String INDEX = "IndexOutOfBoundsException";
    static final String ARGUMENT = "IllegalArgumentException";
    static final String STATE = "IllegalStateException";
    private static final Map<String, Method> CALLS = callsOfTheFace();

    private Told() {
    }

    private static Map<String, Method> callsOfTheFace() {
        Map<String, Method> calls = new HashMap<>();
        for (Method m : Sparkline.class.getDeclaredMethods()) {
            if (Modifier.isPublic(m.getModifiers())) {
                calls.put(m.getName(), m);
            }
        }
        return calls;
    }

    /** What a call answers: a number, true or false, null of a void one, or the name of what it throws. */
    static String answer(Sparkline x, String call) {
        String[] words = call.trim().split(" +");
        Method method = CALLS.get(words[0]);
        if (method == null || method.getParameterCount() != words.length - 1) {
            throw new AssertionError("no such call: " + call);
        }
        Object[] args = new Object[words.length - 1];
        for (int place = 0; place < args.length; place++) {
            String word = words[place + 1];
            args[place] = method.getParameterTypes()[place] == boolean.class
                ? (Object) isTrue(word) : (Object) Integer.valueOf(word);
        }
        try {
            return String.valueOf(method.invoke(x, args));
        } catch (InvocationTargetException e) {
            return e.getCause().getClass().getSimpleName();
        } catch (IllegalAccessException e) {
            throw new AssertionError(e);
        }
    }

    private static boolean isTrue(String word) {
        if (!word.equals("true") && !word.equals("false")) {
            throw new AssertionError("neither true nor false: " + word);
        }
        return word.equals("true");
    }

    static boolean isRefused(String answer) {
        return answer.endsWith("Exception");
    }

    /** A new object behind a run, of which no call may be refused. */
    static Sparkline after(String run) {
        Sparkline x = new Sparkline();
        for (String call : run.split(";")) {
            if (!call.isBlank() && isRefused(answer(x, call))) {
                throw new AssertionError("the run's call " + call + " is refused: " + run);
            }
        }
        return x;
    }

    static int callsIn(String run) {
        int calls = 0;
        for (String call : run.split(";")) {
            calls += call.isBlank() ? 0 : 1;
        }
        return calls;
    }

    /** The same calls so many times, with the number of the time in place of each #. */
    static String times(int many, String calls) {
        StringBuilder run = new StringBuilder();
        for (int time = 0; time < many; time++) {
            run.append(calls.replace("#", Integer.toString(time)));
        }
        return run.toString();
    }

    /** Behind a run, a call answers what is due. */
    static void due(String sentence, String run, String call, String due) {
        String got;
        try {
            got = answer(after(run), call);
        } catch (AssertionError e) {
            got = e.getMessage();
        }
        Due.same(sentence + ": " + run + " " + call, due, got);
    }

    static void due(String sentence, String run, String call, int due) {
        due(sentence, run, call, Integer.toString(due));
    }
}
