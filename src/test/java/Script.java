import java.lang.reflect.InvocationTargetException;
import java.lang.reflect.Method;
import java.lang.reflect.Modifier;
import java.util.ArrayList;
import java.util.Arrays;
import java.util.HashMap;
import java.util.HashSet;
import java.util.List;
import java.util.Map;
import java.util.Set;
import java.util.function.IntUnaryOperator;
import java.util.regex.Matcher;
import java.util.regex.Pattern;

/**
 * Runs of calls on new objects, written as text: every call with the answer that is due, as in
 * addRock(40, 4, 2) = 0. Two calls more are known: type("text") appends each character and answers
 * what the last append() does; program("text") empties the text, types this one and runs it. A run has the
 * name of the promise or the section, and of the sentence, that it tests.
 */
final class Script {
    private static final Pattern CALL = Pattern.compile("(\\w+)\\(((?:\"[^\"]*\"|[^)\"])*)\\)\\s*=\\s*(-?\\w+)");
    private static final int CALLS_OF_AN_OBJECT = 512;
    private static final Set<String> ACTIONS = Set.of("setTide", "setSwell", "addRock", "setKeep", "come", "relieve", "change",
            "bring", "cancel", "exchange", "pass", "take", "restore", "run", "program");
    private static final int STATES_IN_THE_HISTORY = 9;
    private static final int LENGTH_OF_THE_TEXT = 10;
    private static final Call UNDO = new Call("undo", "", 0);
    /** Calls behind which picture() shows what it cannot show at once: the snapshots, the states, the text. */
    private static final List<List<Call>> LOOKS_AT_SNAPSHOTS = List.of(
            List.of(), List.of(new Call("restore", "0", 0)), List.of(new Call("restore", "1", 0)));
    private static final List<List<Call>> LOOKS_AT_ALL = List.of(
            List.of(), List.of(new Call("restore", "0", 0)), List.of(new Call("restore", "1", 0)),
            List.of(UNDO), List.of(UNDO, UNDO), List.of(UNDO, UNDO, UNDO), List.of(UNDO, UNDO, UNDO, UNDO),
            List.of(UNDO, UNDO, UNDO, UNDO, UNDO), List.of(new Call("run", "", 0)));
    private static final Map<String, Method> METHODS = new HashMap<>();
    private static final Set<String> NAMES = new HashSet<>();
    private static int checks = 0;
    private static int wrong = 0;

    private record Call(String name, String written, int due) {
        boolean isRefused() {
            return due < 0 && due != RockWatches.NONE;
        }

        boolean isSuccessfulAction() {
            return due >= 0 && ACTIONS.contains(name);
        }

        @Override
        public String toString() {
            return name + "(" + written + ")";
        }
    }

    private Script() {
    }

    /** Checks every answer, that refused calls change nothing at all, and that each action can be undone. */
    static void run(String name, String text) {
        check(name + ": a second test of this name", NAMES.add(name));
        List<Call> calls = read(name, text);
        Player player = new Player();
        for (int last = 0; last < calls.size(); last++) {
            Call call = calls.get(last);
            int answer = player.play(call);
            check(name + ": " + call + " answered " + answer + ", due is " + call.due, answer == call.due);
            if (call.isRefused()) {
                checkNothingChanged(name, calls, last);
            }
            if (call.isSuccessfulAction()) {
                checkUndo(name, calls, last);
            }
        }
        check(name + ": too many calls: " + player.calls, player.calls <= CALLS_OF_AN_OBJECT);
    }

    private static List<Call> read(String name, String text) {
        List<Call> calls = new ArrayList<>();
        Matcher matcher = CALL.matcher(text);
        int end = 0;
        while (matcher.find()) {
            check(name + ": no call is left out behind offset " + end, text.substring(end, matcher.start()).isBlank());
            calls.add(new Call(matcher.group(1), matcher.group(2), number(matcher.group(3))));
            end = matcher.end();
        }
        check(name + ": the script is read to its end", text.substring(end).isBlank() && !calls.isEmpty());
        return calls;
    }

    /** With the refused call and without it, all later answers are the same. */
    private static void checkNothingChanged(String name, List<Call> calls, int refused) {
        for (List<Call> look : LOOKS_AT_ALL) {
            Player with = playerBehind(calls, refused + 1);
            Player without = playerBehind(calls, refused);
            without.onlyType(calls.get(refused));
            compare(name + ": the refused " + calls.get(refused) + " changed something, seen by " + look,
                    with.pictureBehind(look), without.pictureBehind(look));
        }
    }

    /** An action that is undone at once leaves all as it was, but for the text and the number of states. */
    private static void checkUndo(String name, List<Call> calls, int action) {
        String what = name + ": undo() behind " + calls.get(action);
        for (List<Call> look : LOOKS_AT_SNAPSHOTS) {
            Player undone = playerBehind(calls, action + 1);
            int states = undone.look("count", STATES_IN_THE_HISTORY);
            check(what + " has a state", states >= 1 && undone.play(UNDO) == states - 1);
            List<Integer> picture = undone.pictureBehind(look);
            List<Integer> due = playerBehind(calls, action).pictureBehind(look);
            for (int part : new int[] {STATES_IN_THE_HISTORY, LENGTH_OF_THE_TEXT}) {
                picture.set(part, 0);
                due.set(part, 0);
            }
            compare(what + ", seen by " + look, picture, due);
        }
    }

    private static Player playerBehind(List<Call> calls, int played) {
        Player player = new Player();
        for (Call call : calls.subList(0, played)) {
            player.play(call);
        }
        return player;
    }

    private static void compare(String what, List<Integer> picture, List<Integer> due) {
        check(what + "\n  " + picture + "\n  due is\n  " + due, picture.equals(due));
    }

    static void check(String what, boolean holds) {
        checks++;
        if (!holds) {
            wrong++;
            System.out.println(what);
        }
    }

    /** The last call of a test's main method. */
    static void finish() {
        System.out.println(NAMES.size() + " runs, " + checks + " checks, " + wrong + " wrong");
        if (wrong > 0 || checks == 0) {
            System.exit(1);
        }
    }

    private static int number(String word) {
        switch (word) {
            case "INVALID": return -1;
            case "ILLEGAL": return -2;
            case "FULL": return -3;
            case "NONE": return -9;
            case "MIN": return Integer.MIN_VALUE;
            case "MAX": return Integer.MAX_VALUE;
            default: return Integer.parseInt(word);
        }
    }

    /** An object and the calls that it has had. */
    private static final class Player {
        private final List<Call> played = new ArrayList<>();
        private RockWatches watches = new RockWatches();
        private int calls = 0;

        int play(Call call) {
            played.add(call);
            return playAgain(call);
        }

        private int playAgain(Call call) {
            if (call.name.equals("type")) {
                return type(call.written);
            }
            if (call.name.equals("program")) {
                calls += 2;
                watches.clearText();
                type(call.written);
                return watches.run();
            }
            return look(call.name, call.written.isBlank() ? new int[0]
                    : Arrays.stream(call.written.split(",")).mapToInt(word -> number(word.trim())).toArray());
        }

        /** Of a program all but that it is run, of any other call nothing. */
        void onlyType(Call call) {
            if (call.name.equals("program")) {
                play(new Call("clearText", "", 0));
                play(new Call("type", call.written, 0));
            }
        }

        private int type(String quoted) {
            int answer = 0;
            for (char character : quoted.substring(1, quoted.length() - 1).toCharArray()) {
                answer = watches.append(character);
                calls++;
            }
            return answer;
        }

        int look(String name, int... arguments) {
            calls++;
            try {
                return (int) method(name, arguments.length).invoke(watches, Arrays.stream(arguments).boxed().toArray());
            } catch (InvocationTargetException thrown) {
                throw new IllegalStateException(name + Arrays.toString(arguments) + " threw", thrown.getCause());
            } catch (IllegalAccessException impossible) {
                throw new IllegalStateException(impossible);
            }
        }

        private static Method method(String name, int parameters) {
            if (METHODS.isEmpty()) {
                Arrays.stream(RockWatches.class.getDeclaredMethods()).filter(method -> Modifier.isPublic(method.getModifiers()))
                        .forEach(method -> METHODS.put(method.getName() + method.getParameterCount(), method));
            }
            Method method = METHODS.get(name + parameters);
            if (method == null) {
                throw new IllegalStateException("no such call: " + name + " with " + parameters + " arguments");
            }
            return method;
        }

        /** What calls answer, and the picture then; the picture comes first. */
        List<Integer> pictureBehind(List<Call> looks) {
            List<Integer> answers = new ArrayList<>();
            for (Call look : looks) {
                answers.add(play(look));
            }
            List<Integer> picture = picture();
            picture.addAll(answers);
            return picture;
        }

        /** What can be looked at, count() first; of the swells a part. */
        private List<Integer> picture() {
            List<Integer> picture = new ArrayList<>();
            look(picture, 11, what -> watches.count(what));
            for (int number = 0; number < picture.get(1); number++) {
                int rock = number;
                look(picture, 7, what -> watches.rock(rock, what));
                for (int kind = 0; kind < 3; kind++) {
                    int store = kind;
                    look(picture, 6, what -> watches.store(rock, store, what));
                }
            }
            for (int number = 0; number < picture.get(2); number++) {
                int keeper = number;
                look(picture, 7, what -> watches.keeper(keeper, what));
            }
            for (int number = 0; number < picture.get(3); number++) {
                int turn = number;
                look(picture, 7, what -> watches.turn(turn, what));
            }
            look(picture, 14, day -> watches.sea(day, 0));
            look(picture, 14, day -> watches.sea(day, 1));
            look(picture, 1, end -> watches.sea(199, 1));
            return picture;
        }

        /** Looks on at a new object that has had the same calls, since nothing is promised of this one any more. */
        private void renew() {
            watches = new RockWatches();
            calls = 0;
            played.forEach(this::playAgain);
        }

        private void look(List<Integer> picture, int parts, IntUnaryOperator part) {
            for (int what = 0; what < parts; what++) {
                if (calls >= CALLS_OF_AN_OBJECT) {
                    renew();
                }
                calls++;
                picture.add(part.applyAsInt(what));
            }
        }
    }
}
