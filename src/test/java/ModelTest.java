import java.lang.reflect.InvocationTargetException;
import java.lang.reflect.Method;
import java.lang.reflect.Modifier;
import java.util.Arrays;
import java.util.Map;
import java.util.Set;
import java.util.TreeMap;
import java.util.TreeSet;

/** All promises: in long runs of calls, the class answers each call as PlainModel does. */
public final class ModelTest {
    private static final int RUNS = 1000;
    /** A script takes up to 64 calls, so a run may go that far beyond this number and stays under 512. */
    private static final int CALLS = 430;
    private static final String[] CHANGES = {"addNest", "addCrow", "publish", "publish", "publish", "publish",
        "publish", "read", "read", "cancel", "setWind", "forget", "advance", "advance", "advance", "advance", "advance",
        "undo", "undo", "save", "restore"};
    /** Without undo and restore, enough is delivered that nests forget their oldest keys. */
    private static final String[] DELIVERIES = {"publish", "publish", "publish", "advance", "advance", "read",
        "read"};
    private static final int[] EDGES = {Integer.MIN_VALUE, -1, 0, 1, 4, 5, 6, 8, 9, 10, 15, 16, 17, 40, 41, 99, 100,
        101, Integer.MAX_VALUE};
    private static final String SCRIPT_CHARACTERS = "nestcrowsendreaddropwindforgetwait 0123456789;; ~";
    private static final Map<String, Method> OF_CLASS = publicMethods(CrowMail.class);
    private static final Map<String, Method> OF_MODEL = publicMethods(PlainModel.class);
    private static final String[] NAMES = OF_CLASS.keySet().toArray(new String[0]);
    private static final Check CHECK = new Check("ModelTest");
    private static final Set<String> SEEN = new TreeSet<>();
    private static long seed = 0;

    private final CrowMail mail = new CrowMail();
    private final PlainModel model = new PlainModel();
    /** Each kind has other ranges, so that full inboxes, duplicates and losses all come about often. */
    private final int kind = next(60);
    private final StringBuilder calls = new StringBuilder();
    private int made = 0;
    private String difference = "none";

    public static void main(String[] args) {
        CHECK.each(ModelTest::sameNames, ModelTest::sameAnswers, ModelTest::everyEndWasSeen);
        CHECK.finish();
    }

    private static Map<String, Method> publicMethods(Class<?> type) {
        Map<String, Method> methods = new TreeMap<>();
        for (Method method : type.getDeclaredMethods()) {
            if (Modifier.isPublic(method.getModifiers())) {
                methods.put(method.getName(), method);
            }
        }
        return methods;
    }

    private static void sameNames() {
        CHECK.same("methods of the class and of the model", OF_CLASS.keySet(), OF_MODEL.keySet());
    }

    private static void sameAnswers() {
        for (int run = 0; run < RUNS; run++) {
            seed = run * 7919L + 1;
            ModelTest test = new ModelTest();
            test.run();
            if (!test.difference.equals("none")) {
                System.out.println(test.calls);
            }
            CHECK.same("run " + run + ", the call that differs", test.difference, "none");
            CHECK.yes("run " + run + ", no more calls than the document speaks of", test.made <= 512);
        }
    }

    /** Runs that never come to a call's answer, or to one of its exceptions, would tell nothing of it. */
    private static void everyEndWasSeen() {
        for (Method method : OF_CLASS.values()) {
            CHECK.yes(method.getName() + " answered", SEEN.contains(method.getName()));
            for (Class<?> exception : method.getExceptionTypes()) {
                String end = method.getName() + " " + exception.getSimpleName();
                CHECK.yes(end + " was thrown", SEEN.contains(end));
            }
        }
    }

    private void run() {
        int nests = 1 + next(3);
        for (int nest = 0; nest < nests; nest++) {
            callAny("addNest");
        }
        int crows = 1 + next(4);
        for (int crow = 0; crow < crows; crow++) {
            callAny("addCrow");
        }
        while (made < CALLS && difference.equals("none")) {
            int choice = next(10);
            if (choice < 5) {
                callAny(likelyChange());
            } else if (choice == 5) {
                callScript(likelyScript());
            } else {
                callAny(NAMES[next(NAMES.length)]);
                callAny(NAMES[next(NAMES.length)]);
            }
        }
    }

    private String likelyChange() {
        String[] names = kind % 6 == 0 && next(30) > 0 ? DELIVERIES : CHANGES;
        return names[next(names.length)];
    }

    private void callAny(String name) {
        call(name, arguments(name));
        for (int index = 0; name.startsWith("render") && index < 10; index++) {
            call("outputAt", index);
        }
    }

    private void callScript(String script) {
        for (char character : script.toCharArray()) {
            call("type", character);
        }
        call("runScript");
        call("errorPosition");
        call("failedCommand");
    }

    private void call(String name, Object... arguments) {
        String got = answer(OF_CLASS.get(name), mail, arguments);
        String due = answer(OF_MODEL.get(name), model, arguments);
        calls.append(name).append(Arrays.toString(arguments)).append(" = ").append(due).append('\n');
        made++;
        SEEN.add(due.endsWith("Exception") ? name + " " + due : name);
        if (!got.equals(due) && difference.equals("none")) {
            difference = name + Arrays.toString(arguments) + ", got " + got + ", due is " + due;
        }
    }

    private static String answer(Method method, Object object, Object[] arguments) {
        try {
            return String.valueOf(method.invoke(object, arguments));
        } catch (InvocationTargetException e) {
            Throwable thrown = e.getCause();
            return object instanceof CrowMail ? Check.nameOf(thrown) : thrown.getClass().getSimpleName();
        } catch (IllegalAccessException e) {
            return "no access";
        }
    }

    private Object[] arguments(String name) {
        Object[] arguments = new Object[OF_CLASS.get(name).getParameterCount()];
        for (int i = 0; i < arguments.length; i++) {
            arguments[i] = name.equals("type") ? (Object) anyCharacter() : (Object) argument(name, i);
        }
        return arguments;
    }

    private int argument(String name, int index) {
        if (next(12) == 0) {
            return EDGES[next(EDGES.length)];
        }
        switch (name + index) {
            case "addNest0": return 1 + next(kind % 2 == 0 ? 2 : 9);
            case "addNest1": return next(kind % 3 == 0 ? 1 : 5);
            case "publish0": return next(kind % 4 == 0 ? 1 : nests());
            case "publish1": return next(keys());
            case "remembers1": return next(keys());
            case "inboxMessage1": return next(10) - 1;
            case "setWind0": return next(10);
            case "advance0": return next(6) == 0 ? 1 + next(100) : 1 + next(4);
            case "napLength0": case "napLengthByDoubling0": return next(42);
            case "outputAt0": return next(12);
            case "nestByDeliveries0": return next(7);
            case "isFlying0": case "carriedMessage0": case "flightMinutes0": return next(4);
            case "messageAt0": case "waitingMessage0": return next(16);
            case "read0": case "forget0": case "distance0": case "loss0": case "inboxSize0": case "inboxMessage0":
            case "remembers0": case "rememberedCount0": return next(nests());
            default: return message();
        }
    }

    private int nests() {
        return Math.max(1, model.nestCount());
    }

    private int keys() {
        return kind % 5 == 0 ? 5 : kind % 5 == 1 ? 12 : 100;
    }

    /** Most often a message that exists, else one that was published lately or will be the next one. */
    private int message() {
        int count = model.messageCount();
        if (count > 0 && next(8) > 0) {
            return model.messageAt(next(count));
        }
        return model.publishedTotal() - 2 + next(3);
    }

    /** The edges of what may be typed, and any other character. */
    private static char anyCharacter() {
        int choice = next(4);
        return (char) (choice == 0 ? 30 + next(4) : choice == 1 ? 124 + next(5) : choice == 2 ? next(65536) : 'w');
    }

    private String likelyScript() {
        StringBuilder script = new StringBuilder(next(40) == 0 ? "" : likelyCommand());
        for (int more = next(9); more > 0 && script.length() > 0; more--) {
            script.append(';').append(likelyCommand());
        }
        for (int faults = next(3) > 0 ? 0 : 1 + next(2); faults > 0 && script.length() > 0; faults--) {
            spoil(script);
        }
        return script.substring(0, Math.min(script.length(), 61));
    }

    private String likelyCommand() {
        switch (next(11)) {
            case 0: return "nest " + (1 + next(9)) + " " + next(5);
            case 1: return "crow";
            case 2: return "read " + next(nests());
            case 3: return "drop " + Math.max(0, message()) % 1000;
            case 4: return "wind " + next(10);
            case 5: return "forget " + next(nests());
            case 6: return "wait";
            case 7: return "wait " + (next(5) == 0 ? digits() : String.valueOf(1 + next(20)));
            default: return "send " + next(nests()) + " " + (next(8) == 0 ? digits() : String.valueOf(next(30)));
        }
    }

    private static String digits() {
        return String.valueOf(1000 + next(1000)).substring(1 + next(3));
    }

    private static void spoil(StringBuilder script) {
        int at = next(script.length());
        char other = SCRIPT_CHARACTERS.charAt(next(SCRIPT_CHARACTERS.length()));
        switch (next(4)) {
            case 0: script.deleteCharAt(at); break;
            case 1: script.insert(at, other); break;
            case 2: script.setCharAt(at, other); break;
            default: script.setLength(at); break;
        }
    }

    /** The same numbers in each run of the test, as its answers must not depend on chance. */
    private static int next(int bound) {
        seed = seed * 6364136223846793005L + 1442695040888963407L;
        return (int) ((seed >>> 33) % bound);
    }
}
