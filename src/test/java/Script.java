import java.lang.reflect.Method;
import java.util.ArrayList;
import java.util.Arrays;
import java.util.List;
import java.util.Set;
import java.util.function.IntUnaryOperator;
import java.util.regex.Matcher;
import java.util.regex.Pattern;

/**
 * Runs of calls on new objects, written as text: every call with the answer that is due, as in
 * addRock(40, 4, 2) = 0. Two calls more are known: type("text") appends each character and answers
 * what the last append() does; program("text") empties the text, types this one and runs it.
 */
final class Script {
    private static final Pattern CALL = Pattern.compile("(\\w+)\\(((?:\"[^\"]*\"|[^)\"])*)\\)\\s*=\\s*(-?\\w+)");
    private static final int CALLS_OF_AN_OBJECT = 512;
    private static final Set<String> ACTIONS = Set.of("setTide", "setSwell", "addRock", "setKeep", "come", "relieve", "change",
            "bring", "cancel", "exchange", "pass", "take", "restore", "run", "program");
    private static final int STATES_IN_THE_HISTORY = 9;
    private static final int LENGTH_OF_THE_TEXT = 10;
    private static int checks = 0;
    private static int wrong = 0;

    private Script() {
    }

    /** Checks every answer, that calls which answer an error code have changed nothing, and that each action can be undone. */
    static void run(String name, String text) {
        List<String[]> calls = new ArrayList<>();
        Matcher matcher = CALL.matcher(text);
        int end = 0;
        while (matcher.find()) {
            check(name + ": no call is left out behind offset " + end, text.substring(end, matcher.start()).isBlank());
            calls.add(new String[] {matcher.group(1), matcher.group(2), matcher.group(3)});
            end = matcher.end();
        }
        check(name + ": the script is read to its end", text.substring(end).isBlank() && !calls.isEmpty());
        Player all = new Player();
        Player withoutErrors = new Player();
        for (String[] call : calls) {
            int due = number(call[2]);
            int answer = all.play(call[0], call[1]);
            check(name + ": " + call[0] + "(" + call[1] + ") answered " + answer + ", due is " + call[2], answer == due);
            if (!isError(due, call[0])) {
                withoutErrors.play(call[0], call[1]);
            }
        }
        List<Integer> picture = all.picture();
        List<Integer> dueThen = withoutErrors.picture();
        check(name + ": errors have changed the state\n  " + picture + "\n  due is\n  " + dueThen, picture.equals(dueThen));
        check(name + ": too many calls: " + all.calls, all.calls <= CALLS_OF_AN_OBJECT);
        for (int call = 0; call < calls.size(); call++) {
            if (ACTIONS.contains(calls.get(call)[0]) && number(calls.get(call)[2]) >= 0) {
                checkUndo(name, calls, call);
            }
        }
    }

    /** An action that is undone at once leaves all as it was, but for the text and the number of states. */
    private static void checkUndo(String name, List<String[]> calls, int action) {
        Player before = new Player();
        Player undone = new Player();
        for (String[] call : calls.subList(0, action)) {
            before.play(call[0], call[1]);
            undone.play(call[0], call[1]);
        }
        undone.play(calls.get(action)[0], calls.get(action)[1]);
        int states = undone.play("count", "" + STATES_IN_THE_HISTORY);
        String what = name + ": undo() behind " + String.join(" ", calls.get(action));
        check(what + " has a state", states >= 1 && undone.play("undo", "") == states - 1);
        List<Integer> picture = undone.picture();
        List<Integer> due = before.picture();
        for (int part : new int[] {STATES_IN_THE_HISTORY, LENGTH_OF_THE_TEXT}) {
            picture.set(part, 0);
            due.set(part, 0);
        }
        check(what + " leaves\n  " + picture + "\n  due is\n  " + due, picture.equals(due));
    }

    static void check(String what, boolean holds) {
        checks++;
        if (!holds) {
            wrong++;
            System.out.println(what);
        }
    }

    /** The last call of a test's main method. */
    static void finish() {
        System.out.println(checks + " checks, " + wrong + " wrong");
        if (wrong > 0 || checks == 0) {
            System.exit(1);
        }
    }

    private static boolean isError(int due, String call) {
        // A failing program keeps its text, so it is played in both.
        return due < 0 && due != RockWatches.NONE && !call.equals("program");
    }

    private static int number(String word) {
        switch (word) {
            case "INVALID": return -1;
            case "ILLEGAL": return -2;
            case "FULL": return -3;
            case "NONE": return -9;
            case "MIN": return Integer.MIN_VALUE;
            case "MAX": return Integer.MAX_VALUE;
            default: return Integer.parseInt(word);
        }
    }

    /** An object and the number of calls that it has had. */
    private static final class Player {
        private final RockWatches watches = new RockWatches();
        private int calls = 0;

        int play(String name, String written) {
            if (name.equals("type")) {
                return type(written);
            }
            if (name.equals("program")) {
                calls += 2;
                watches.clearText();
                type(written);
                return watches.run();
            }
            calls++;
            int[] arguments = written.isBlank() ? new int[0]
                    : Arrays.stream(written.split(",")).mapToInt(word -> number(word.trim())).toArray();
            return invoke(name, arguments);
        }

        private int type(String quoted) {
            int answer = 0;
            for (char character : quoted.substring(1, quoted.length() - 1).toCharArray()) {
                answer = watches.append(character);
                calls++;
            }
            return answer;
        }

        private int invoke(String name, int[] arguments) {
            Class<?>[] types = new Class<?>[arguments.length];
            Arrays.fill(types, int.class);
            try {
                Method method = RockWatches.class.getMethod(name, types);
                return (int) method.invoke(watches, Arrays.stream(arguments).boxed().toArray());
            } catch (ReflectiveOperationException failure) {
                throw new IllegalStateException("no such call: " + name + Arrays.toString(arguments), failure);
            }
        }

        /** Most of what can be looked at, count() first; of the sea a part, to stay within the calls of an object. */
        List<Integer> picture() {
            List<Integer> picture = new ArrayList<>();
            look(picture, 11, what -> watches.count(what));
            for (int number = 0; number < picture.get(1); number++) {
                int rock = number;
                look(picture, 7, what -> watches.rock(rock, what));
                for (int kind = 0; kind < 3; kind++) {
                    int store = kind;
                    look(picture, 6, what -> watches.store(rock, store, what));
                }
            }
            for (int number = 0; number < picture.get(2); number++) {
                int keeper = number;
                look(picture, 7, what -> watches.keeper(keeper, what));
            }
            for (int number = 0; number < picture.get(3); number++) {
                int turn = number;
                look(picture, 7, what -> watches.turn(turn, what));
            }
            look(picture, 14, day -> watches.sea(day, 0));
            look(picture, 14, day -> watches.sea(day, 1));
            look(picture, 1, end -> watches.sea(199, 1));
            return picture;
        }

        private void look(List<Integer> picture, int parts, IntUnaryOperator part) {
            for (int what = 0; what < parts; what++) {
                calls++;
                picture.add(part.applyAsInt(what));
            }
        }
    }
}
