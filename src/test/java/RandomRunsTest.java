import java.lang.reflect.InvocationTargetException;
import java.lang.reflect.Method;
import java.util.HashMap;
import java.util.Map;
import java.util.Random;

/**
 * Promises 1 to 57: long runs of calls, drawn from a fixed seed, whose answers are compared with
 * those of the reference. No run asks more of an object than the document's 512 calls.
 */
public final class RandomRunsTest {
    private static final int RUNS = 1500;
    private static final int CALLS = 512;
    private static final int MOST_SHOWN = 20;

    private static final String[] CHANGES = {"setTree", "setTree", "setBench", "setWind", "addParty", "addParty",
        "moveParty", "summon", "summon", "summon", "summon", "buyBoomerangs", "setSitting", "hear", "hear", "pass",
        "run", "undo", "save", "restore"};
    private static final String[] LOOKS = {"treeBits", "turnedTrees", "turnedTreesByCells", "reach", "reachByQueue",
        "bench", "partyCount", "cellOf", "partyIn", "servedCount", "flightLength", "flightCell", "flightEnd",
        "flightBits", "servingThrows", "servingThrowsBySets", "bestThrow", "boomerangs", "throwCount", "sittingBits",
        "pleaCount", "pleaParty", "pleaFrom", "pleaUntil", "mostHearings", "mostHearingsByChains", "hour", "coins",
        "coinsByAccounts", "refusalReason", "refusalDetail", "caughtShare", "caughtShareBits", "meanSteps",
        "signature", "errorPosition", "failedCommand", "describeRow", "describePlea", "lineAt", "isConsistent",
        "append"};

    private static final Map<String, Method> METHODS = new HashMap<>();
    private static final Map<String, Integer> ANSWERS = new HashMap<>();

    private final Random random;
    private final int run;
    private final int treeBound;
    private final BoomerangCourt court = new BoomerangCourt();
    private final ReferenceCourt reference = new ReferenceCourt();
    private final StringBuilder told = new StringBuilder();
    private int calls = 1;
    private int wrong = 0;

    private RandomRunsTest(int run) {
        this.run = run;
        this.random = new Random(run);
        // Some yards are to stay empty, so that boomerangs come back.
        this.treeBound = run % 3 == 0 ? 1 : run % 3 == 1 ? 40 : 8;
    }

    public static void main(String[] args) {
        for (Method method : BoomerangCourt.class.getMethods()) {
            if (method.getDeclaringClass() == BoomerangCourt.class) {
                METHODS.put(method.getName(), method);
            }
        }
        int wrong = 0;
        for (int run = 0; run < RUNS && wrong < MOST_SHOWN; run++) {
            wrong += new RandomRunsTest(run).play();
        }
        for (String name : METHODS.keySet()) {
            if (ANSWERS.getOrDefault(name, 0) == 0) {
                wrong++;
                System.out.println(name + " never answered");
            }
        }
        System.out.println(ANSWERS);
        if (wrong != 0) {
            System.exit(1);
        }
    }

    private int play() {
        if (run % 4 == 3) {
            crowdTheDocket();
        }
        while (calls < CALLS && wrong == 0) {
            if (random.nextInt(3) == 0) {
                act(CHANGES[random.nextInt(CHANGES.length)]);
            } else {
                act(LOOKS[random.nextInt(LOOKS.length)]);
            }
        }
        return wrong;
    }

    /** Many pleas, which begin at many hours, and few hours in which they can be heard. */
    private void crowdTheDocket() {
        for (int hour = 8; hour < 18; hour++) {
            compare("setSitting", hour, 0);
        }
        for (int i = 0; i < 8; i++) {
            compare("addParty", random.nextInt(8), random.nextInt(8));
        }
        for (int round = 0; round < 30; round++) {
            compare("setSitting", random.nextInt(24), random.nextInt(3) == 0 ? 1 : 0);
            compare("summon", random.nextInt(8), 16 + random.nextInt(16));
            if (random.nextInt(3) == 0) {
                compare("pass", 1 + random.nextInt(6));
            }
            compare("mostHearings");
            compare("mostHearingsByChains");
        }
    }

    private void act(String name) {
        if (name.equals("run")) {
            if (calls + 62 < CALLS) {
                type(commandText());
                compare("run");
            }
            return;
        }
        if (name.equals("restore") && random.nextInt(4) != 0) {
            return;
        }
        Class<?>[] types = METHODS.get(name).getParameterTypes();
        int[] arguments = new int[types.length];
        for (int i = 0; i < types.length; i++) {
            arguments[i] = argument(name, i);
        }
        compare(name, arguments);
    }

    /** Mostly sound, seldom far off. */
    private int argument(String name, int index) {
        int[] odd = {-1, 8, 64, 24, 49, 21, Integer.MAX_VALUE, Integer.MIN_VALUE};
        if (random.nextInt(25) == 0) {
            return odd[random.nextInt(odd.length)];
        }
        switch (name) {
            case "setTree":
                return index < 2 ? random.nextInt(8) : random.nextInt(treeBound) == 0 ? 0 : 1;
            case "setWind":
                return index == 0 ? random.nextInt(8) : random.nextInt(4);
            case "summon":
                return index == 0 ? party() : goodThrow();
            case "flightLength": case "flightCell": case "flightEnd": case "flightBits":
                return index == 0 ? random.nextInt(64) : random.nextInt(random.nextBoolean() ? 6 : 38);
            case "buyBoomerangs":
                return 1 + random.nextInt(20);
            case "setSitting":
                return index == 0 ? random.nextInt(24) : random.nextInt(2);
            case "pass":
                return 1 + random.nextInt(random.nextInt(3) == 0 ? 48 : 5);
            case "hear": case "describePlea": case "pleaParty": case "pleaFrom": case "pleaUntil":
                return random.nextInt(random.nextBoolean() ? 2 : 8);
            case "moveParty":
                return index == 0 ? party() : random.nextInt(8);
            case "lineAt":
                return random.nextInt(11);
            case "append":
                return random.nextInt(140);
            default:
                return random.nextInt(8);
        }
    }

    private int party() {
        return random.nextInt(Math.max(1, (Integer) reference.call("partyCount")));
    }

    private int goodThrow() {
        Object best = random.nextInt(3) == 0 ? null : reference.call("bestThrow", party());
        return best instanceof Integer ? (Integer) best : random.nextInt(64);
    }

    private String commandText() {
        StringBuilder text = new StringBuilder();
        for (int i = random.nextInt(6); i >= 0; i--) {
            text.append(text.length() == 0 ? "" : ";").append(command());
        }
        String whole = text.length() > 60 ? text.substring(0, 60) : text.toString();
        if (random.nextInt(4) == 0 && !whole.isEmpty()) {
            char[] characters = whole.toCharArray();
            characters[random.nextInt(characters.length)] = "trefhbpmwo0189 ;@#"
                    .charAt(random.nextInt(18));
            whole = new String(characters);
        }
        return random.nextInt(10) == 0 ? whole.substring(0, random.nextInt(whole.length() + 1)) : whole;
    }

    private String command() {
        String cell = "" + random.nextInt(8) + random.nextInt(random.nextInt(20) == 0 ? 10 : 8);
        switch (random.nextInt(10)) {
            case 0:
                return (random.nextInt(treeBound) == 0 ? "fell " : "tree ") + cell;
            case 1:
                return "fell " + cell;
            case 2:
                return "bench " + cell;
            case 3:
                return "party " + cell;
            case 4:
                return "move " + party() + "@" + cell;
            case 5:
                return "wind " + random.nextInt(8) + random.nextInt(random.nextInt(10) == 0 ? 10 : 4);
            case 6:
                return "throw " + party() + "#" + goodThrow();
            case 7:
                return "buy " + (random.nextInt(10) == 0 ? random.nextInt(30) : 1 + random.nextInt(3));
            case 8:
                return "hear " + random.nextInt(2);
            default:
                return "pass " + (random.nextInt(10) == 0 ? random.nextInt(100) : 1 + random.nextInt(9));
        }
    }

    private void type(String text) {
        for (char character : text.toCharArray()) {
            compare("append", character);
        }
    }

    private void compare(String name, int... arguments) {
        calls++;
        // As the methods take them: a boolean is anything but 0, a character keeps 16 bits.
        Object want = reference.call(name, arguments);
        Object got = ask(name, arguments);
        told.append(name).append(java.util.Arrays.toString(arguments)).append(" = ").append(got).append('\n');
        if (!(want instanceof String)) {
            ANSWERS.merge(name, 1, Integer::sum);
        }
        if (!want.equals(got)) {
            wrong++;
            System.out.println("run " + run + ", due at the end is " + want + ":\n" + told);
        }
    }

    private Object ask(String name, int... arguments) {
        Method method = METHODS.get(name);
        Object[] values = new Object[arguments.length];
        for (int i = 0; i < values.length; i++) {
            Class<?> type = method.getParameterTypes()[i];
            values[i] = type == boolean.class ? (Object) (arguments[i] != 0)
                    : type == char.class ? (Object) (char) arguments[i] : (Object) arguments[i];
        }
        try {
            return method.invoke(court, values);
        } catch (InvocationTargetException e) {
            return "throws." + e.getCause().getClass().getSimpleName();
        } catch (IllegalAccessException e) {
            throw new AssertionError(e);
        }
    }
}
