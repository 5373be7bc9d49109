import java.lang.reflect.Method;
import java.util.ArrayList;
import java.util.Arrays;
import java.util.List;
import java.util.regex.Matcher;
import java.util.regex.Pattern;

/**
 * Runs of calls on new objects, written as text: every call with the answer that is due, as in
 * addRock(40, 4, 2) = 0. Two calls more are known: type("text") appends each character and answers
 * what the last append() does; program("text") empties the text, types this one and runs it.
 */
final class Script {
    private static final Pattern CALL = Pattern.compile("(\\w+)\\(((?:\"[^\"]*\"|[^)\"])*)\\)\\s*=\\s*(-?\\w+)");
    private static final int CALLS_OF_AN_OBJECT = 512;
    private static int checks = 0;
    private static int wrong = 0;

    private Script() {
    }

    /** Checks every answer, and that the calls which answer an error code have changed nothing. */
    static void run(String name, String text) {
        List<String[]> calls = new ArrayList<>();
        Matcher matcher = CALL.matcher(text);
        int end = 0;
        while (matcher.find()) {
            check(name + ": no call is left out behind offset " + end, text.substring(end, matcher.start()).isBlank());
            calls.add(new String[] {matcher.group(1), matcher.group(2), matcher.group(3)});
            end = matcher.end();
        }
        check(name + ": the script is read to its end", text.substring(end).isBlank() && !calls.isEmpty());
        Player all = new Player();
        Player withoutErrors = new Player();
        for (String[] call : calls) {
            int due = number(call[2]);
            int answer = all.play(call[0], call[1]);
            check(name + ": " + call[0] + "(" + call[1] + ") answered " + answer + ", due is " + call[2], answer == due);
            if (!isError(due, call[0])) {
                withoutErrors.play(call[0], call[1]);
            }
        }
        String picture = all.picture();
        String dueThen = withoutErrors.picture();
        check(name + ": errors have changed the state\n  " + picture + "\n  due is\n  " + dueThen, picture.equals(dueThen));
        check(name + ": too many calls: " + all.calls, all.calls <= CALLS_OF_AN_OBJECT);
    }

    static void check(String what, boolean holds) {
        checks++;
        if (!holds) {
            wrong++;
            System.out.println(what);
        }
    }

    /** The last call of a test's main method. */
    static void finish() {
        System.out.println(checks + " checks, " + wrong + " wrong");
        if (wrong > 0 || checks == 0) {
            System.exit(1);
        }
    }

    private static boolean isError(int due, String call) {
        // A failing program keeps its text, so it is played in both.
        return due < 0 && due != RockWatches.NONE && !call.equals("program");
    }

    private static int number(String word) {
        switch (word) {
            case "INVALID": return -1;
            case "ILLEGAL": return -2;
            case "FULL": return -3;
            case "NONE": return -9;
            case "MIN": return Integer.MIN_VALUE;
            case "MAX": return Integer.MAX_VALUE;
            default: return Integer.parseInt(word);
        }
    }

    /** An object and the number of calls that it has had. */
    private static final class Player {
        private final RockWatches watches = new RockWatches();
        private int calls = 0;

        int play(String name, String written) {
            if (name.equals("type")) {
                return type(written);
            }
            if (name.equals("program")) {
                calls += 2;
                watches.clearText();
                type(written);
                return watches.run();
            }
            calls++;
            int[] arguments = written.isBlank() ? new int[0]
                    : Arrays.stream(written.split(",")).mapToInt(word -> number(word.trim())).toArray();
            return invoke(name, arguments);
        }

        private int type(String quoted) {
            int answer = 0;
            for (char character : quoted.substring(1, quoted.length() - 1).toCharArray()) {
                answer = watches.append(character);
                calls++;
            }
            return answer;
        }

        private int invoke(String name, int[] arguments) {
            Class<?>[] types = new Class<?>[arguments.length];
            Arrays.fill(types, int.class);
            try {
                Method method = RockWatches.class.getMethod(name, types);
                return (int) method.invoke(watches, Arrays.stream(arguments).boxed().toArray());
            } catch (ReflectiveOperationException failure) {
                throw new IllegalStateException("no such call: " + name + Arrays.toString(arguments), failure);
            }
        }

        /** Most of what can be looked at; of the sea a part, to stay within the calls of an object. */
        String picture() {
            StringBuilder picture = new StringBuilder();
            for (int what = 0; what <= 10; what++) {
                look(picture, watches.count(what));
            }
            for (int rock = 0; rock < watches.count(1); rock++) {
                for (int what = 0; what <= 6; what++) {
                    look(picture, watches.rock(rock, what));
                }
                for (int store = 0; store < 3; store++) {
                    for (int what = 0; what <= 5; what++) {
                        look(picture, watches.store(rock, store, what));
                    }
                }
            }
            for (int keeper = 0; keeper < watches.count(2); keeper++) {
                for (int what = 0; what <= 6; what++) {
                    look(picture, watches.keeper(keeper, what));
                }
            }
            for (int turn = 0; turn < watches.count(3); turn++) {
                for (int what = 0; what <= 6; what++) {
                    look(picture, watches.turn(turn, what));
                }
            }
            for (int day = 0; day < 14; day++) {
                look(picture, watches.sea(day, 0));
                look(picture, watches.sea(day, 1));
            }
            look(picture, watches.sea(199, 1));
            return picture.toString();
        }

        private void look(StringBuilder picture, int answer) {
            calls++;
            picture.append(answer).append(' ');
        }
    }
}
