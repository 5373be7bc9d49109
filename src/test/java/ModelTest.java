import java.lang.reflect.InvocationTargetException;
import java.lang.reflect.Method;
import java.lang.reflect.Modifier;
import java.util.ArrayList;
import java.util.Arrays;
import java.util.HashMap;
import java.util.List;
import java.util.Map;
import java.util.TreeMap;

/** All promises together: runs of 512 calls, drawn from fixed numbers, on RockWatches and on the Model. */
public final class ModelTest {
    private static final int RUNS = 1500;
    private static final int CALLS = 512;
    private static final int MOST_SHOWN = 3;
    private static final String[] ACTIONS = {"setTide", "setSwell", "addRock", "setKeep", "come", "relieve", "change", "bring",
        "cancel", "exchange", "pass", "take", "restore", "undo"};
    private static final String[] LOOKS = {"count", "rock", "store", "keeper", "turn", "sea", "landing", "landings", "cutOff",
        "lasts", "doneOn", "later", "nextOut", "nextIn"};
    private static final Map<String, Method> METHODS = new HashMap<>();
    private static int shown = 0;

    private long seed;
    private final Model model = new Model();
    private final RockWatches watches = new RockWatches();
    private final List<String> log = new ArrayList<>();
    private boolean same = true;

    private ModelTest(long run) {
        seed = run * 0x9E3779B97F4A7C15L + 1;
    }

    public static void main(String[] arguments) {
        for (Method method : RockWatches.class.getDeclaredMethods()) {
            if (Modifier.isPublic(method.getModifiers())) {
                METHODS.put(method.getName(), method);
            }
        }
        int wrongRuns = 0;
        Map<String, Integer> answers = new TreeMap<>();
        for (int run = 0; run < RUNS; run++) {
            ModelTest test = new ModelTest(run);
            test.play(answers);
            wrongRuns += test.same ? 0 : 1;
        }
        System.out.println(answers);
        // A generator that reaches too little would make this test look better than it is.
        for (String name : METHODS.keySet()) {
            for (String kind : List.of("value", "error")) {
                boolean never = kind.equals("error") && List.of("clearText", "nextOut", "nextIn").contains(name);
                Script.check("the runs have too few answers of the sort " + kind + " of " + name,
                        never || answers.getOrDefault(name + " " + kind, 0) > RUNS / 5);
            }
        }
        Script.check(wrongRuns + " runs differ from the model", wrongRuns == 0);
        Script.finish();
    }

    private void play(Map<String, Integer> answers) {
        int sort = next(4);
        if (sort > 0) {
            begin(answers);
        }
        while (log.size() < CALLS && same) {
            int dice = next(100);
            if (dice < 4 && log.size() < CALLS - 150) {
                runProgram(answers);
            } else if (dice == 4) {
                for (int undos = 1 + next(7); undos > 0 && log.size() < CALLS && same; undos--) {
                    compare(answers, "undo");
                }
            } else if (dice < 8 && sort == 2) {
                compare(answers, "relieve", drawn("relieve"));
            } else if (dice < (sort == 0 ? 70 : 45)) {
                String name = ACTIONS[next(ACTIONS.length)];
                if (sort == 1 && (name.equals("undo") || name.equals("restore")) && next(3) > 0) {
                    name = "bring";
                }
                compare(answers, name, drawn(name));
            } else {
                String name = LOOKS[next(LOOKS.length)];
                compare(answers, name, drawn(name));
            }
        }
    }

    /** Rocks and keepers first, and so many states that no undo() goes back behind them. */
    private void begin(Map<String, Integer> answers) {
        for (int rocks = 1 + next(3); rocks > 0; rocks--) {
            compare(answers, "addRock", next(60), 2 + next(8), 1 + next(3));
        }
        for (int keepers = 4 + next(5); keepers > 0; keepers--) {
            compare(answers, "come", next(3));
        }
        for (int bad = 0; bad < 8; bad++) {
            compare(answers, "setSwell", next(40), next(10));
        }
        for (int keeper = 0; keeper < 3; keeper++) {
            compare(answers, "change", 0, next(3), keeper, 1);
            compare(answers, "bring", 0, next(3), keeper, 1 + next(300));
        }
    }

    private void compare(Map<String, Integer> answers, String name, int... arguments) {
        int due = model.call(name, arguments);
        int answer;
        try {
            answer = (int) METHODS.get(name).invoke(watches, Arrays.stream(arguments).boxed().toArray());
        } catch (InvocationTargetException thrown) {
            same = false;
            System.out.println(log + " " + name + Arrays.toString(arguments) + " threw " + thrown.getCause());
            return;
        } catch (IllegalAccessException impossible) {
            throw new IllegalStateException(impossible);
        }
        String sort = due < 0 && due != RockWatches.NONE ? " error" : " value";
        answers.merge(name + sort, 1, Integer::sum);
        log.add(name + Arrays.toString(arguments) + "=" + answer);
        if (answer != due) {
            same = false;
            if (shown < MOST_SHOWN) {
                shown++;
                System.out.println(log + " due is " + due);
            }
        }
    }

    private int next(int bound) {
        seed = seed * 6364136223846793005L + 1442695040888963407L;
        return (int) ((seed >>> 33) % bound);
    }

    /** Mostly a number in range, at times one of its ends, one beyond, or one far away. */
    private int number(int least, int greatest) {
        switch (next(40)) {
            case 0: return least - 1;
            case 1: return greatest + 1;
            case 2: return new int[] {Integer.MIN_VALUE, Integer.MAX_VALUE, RockWatches.NONE, -1}[next(4)];
            case 3: case 4: return least;
            case 5: case 6: return greatest;
            default: return greatest < least ? least : least + next(greatest - least + 1);
        }
    }

    private int aRock() {
        return number(0, Math.max(0, model.call("count", 1) - 1));
    }

    private int aKeeper() {
        return number(0, Math.max(0, model.call("count", 2) - 1));
    }

    private int aTurn() {
        return number(0, Math.max(0, model.call("count", 3) - 1));
    }

    /** A turn, of some that are drawn preferably a relief. */
    private int aRelief() {
        int turn = aTurn();
        for (int tries = next(12); tries > 0 && model.call("turn", turn, 0) != 0; tries--) {
            turn = aTurn();
        }
        return turn;
    }

    private int aDay() {
        int today = model.call("count", 0);
        return next(4) > 0 ? number(today, Math.min(199, today + 6)) : number(0, 199);
    }

    private int[] drawn(String name) {
        switch (name) {
            case "setTide": return new int[] {number(0, 13), number(0, 99)};
            case "setSwell": return new int[] {aDay(), number(0, 9)};
            case "addRock": return new int[] {next(2) * number(0, 99), number(0, 9), number(1, 3)};
            case "setKeep": return new int[] {aRock(), number(0, 2), next(2) == 0 ? number(0, 999) : number(0, 40)};
            case "come": return new int[] {number(0, 2)};
            case "relieve": return new int[] {aRock(), aDay(), aKeeper(), aKeeper()};
            case "change": return new int[] {aRock(), aDay(), aKeeper(), number(0, 1)};
            case "bring": return new int[] {aRock(), aDay(), number(0, 2), next(2) == 0 ? number(1, 300) : number(1, 40)};
            case "cancel": case "doneOn": return new int[] {aTurn()};
            case "exchange": return new int[] {aRelief(), aRelief()};
            case "pass": return new int[] {next(5) > 0 ? number(1, 3) : number(1, 60)};
            case "take": case "restore": return new int[] {number(0, 1)};
            case "count": return new int[] {number(0, 10)};
            case "rock": return new int[] {aRock(), number(0, 6)};
            case "store": return new int[] {aRock(), number(0, 2), number(0, 5)};
            case "keeper": return new int[] {aKeeper(), number(0, 6)};
            case "turn": return new int[] {aTurn(), number(0, 6)};
            case "sea": return new int[] {aDay(), number(0, 1)};
            case "landing": return new int[] {aRock(), aDay()};
            case "landings": return new int[] {aRock(), number(0, 150), number(20, 199)};
            case "cutOff": return new int[] {number(1, (1 << model.call("count", 1)) - 1), number(0, 150), number(20, 199)};
            case "lasts": return new int[] {aRock(), number(0, 2)};
            case "later": return new int[] {aKeeper(), number(0, 60), number(0, 6)};
            default: return new int[0];
        }
    }

    private void runProgram(Map<String, Integer> answers) {
        StringBuilder text = new StringBuilder();
        for (int commands = next(7); commands > 0; commands--) {
            text.append(aCommand());
        }
        for (int changes = next(3) == 0 ? 1 + next(2) : 0; changes > 0 && text.length() > 0; changes--) {
            char character = ";; 0189aekz{`:/A\t\u00ff".charAt(next(18));
            int place = next(text.length());
            switch (next(3)) {
                case 0: text.deleteCharAt(place); break;
                case 1: text.insert(place, character); break;
                default: text.setCharAt(place, character); break;
            }
        }
        if (next(3) > 0) {
            compare(answers, "clearText");
        }
        for (int place = 0; place < text.length(); place++) {
            compare(answers, "append", text.charAt(place));
        }
        if (next(4) == 0) {
            compare(answers, "append", number(1, 255));
        }
        compare(answers, "run");
    }

    private String aCommand() {
        switch (next(9)) {
            case 0: return command("rock", "addRock");
            case 1: return command("keeper", "come");
            case 2: return command("relief", "relieve");
            case 3: return firstThree("out");
            case 4: return firstThree("ashore");
            case 5: return command("bring", "bring");
            case 6: return command("swell", "setSwell");
            case 7: return command("pass", "pass");
            default: return " ".repeat(next(3));
        }
    }

    private String command(String word, String name) {
        return written(word, drawn(name));
    }

    private String firstThree(String word) {
        return written(word, Arrays.copyOf(drawn("change"), 3));
    }

    private String written(String word, int[] numbers) {
        StringBuilder text = new StringBuilder(word);
        for (int place = 0; place < numbers.length; place++) {
            text.append(" ".repeat(place == 0 ? next(2) : 1 + next(6) / 5)).append(Math.max(numbers[place], -1) & 0xffff);
        }
        return text.append(" ".repeat(next(6) / 5)).append(';').append(" ".repeat(next(6) / 5)).toString();
    }
}
