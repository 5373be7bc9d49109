import java.util.ArrayDeque;
import java.util.ArrayList;
import java.util.Arrays;
import java.util.Deque;
import java.util.List;
import java.util.function.IntPredicate;
import java.util.function.IntSupplier;
import java.util.regex.Matcher;
import java.util.regex.Pattern;
import java.util.stream.IntStream;

/**
 * The document once more, written in another way (with the Java library, and a copy of everything for
 * each state), so that ModelTest can compare the answers of two programs.
 */
final class Model {
    private static final int INVALID = -1;
    private static final int ILLEGAL = -2;
    private static final int FULL = -3;
    private static final int NONE = -9;
    private static final Pattern TOKEN = Pattern.compile("[a-z]+|[0-9]+|[^ ]", Pattern.DOTALL);

    private record Turn(int id, int kind, int rock, int day, int in, int out, int store, int amount) {
        Turn on(int newDay) {
            return new Turn(id, kind, rock, newDay, in, out, store, amount);
        }

        Turn goingOut(int newOut) {
            return new Turn(id, kind, rock, day, in, newOut, store, amount);
        }

        int part(int what) {
            return new int[] {kind, rock, day, in, out, store, amount}[what];
        }
    }

    /** What a snapshot keeps. */
    private static final class Place {
        int today;
        int done;
        int dropped;
        int missed;
        int nextId;
        int lastDone = NONE;
        int[] tides = new int[14];
        int[] swells = new int[200];
        List<int[]> rocks = new ArrayList<>();
        List<int[][]> stores = new ArrayList<>();
        List<int[]> keepers = new ArrayList<>();
        List<Turn> turns = new ArrayList<>();

        Place copy() {
            Place copy = new Place();
            copy.today = today;
            copy.done = done;
            copy.dropped = dropped;
            copy.missed = missed;
            copy.nextId = nextId;
            copy.tides = tides.clone();
            copy.swells = swells.clone();
            rocks.forEach(rock -> copy.rocks.add(rock.clone()));
            stores.forEach(three -> copy.stores.add(Arrays.stream(three).map(int[]::clone).toArray(int[][]::new)));
            keepers.forEach(keeper -> copy.keepers.add(keeper.clone()));
            copy.turns.addAll(turns);
            return copy;
        }

        boolean lands(int rock, int day) {
            return tides[day % 14] >= rocks.get(rock)[0] && swells[day] <= rocks.get(rock)[1];
        }

        int on(int rock) {
            return (int) keepers.stream().filter(keeper -> keeper[1] == rock).count();
        }

        int need(int rock, int store) {
            return new int[] {3 * on(rock), 5 * Math.min(1, on(rock)), 2 * on(rock)}[store];
        }

        void dayPasses(int watchedId) {
            boolean[] doubled = new boolean[3];
            for (Turn turn : List.copyOf(turns)) {
                if (turn.day != today) {
                    continue;
                }
                if (!lands(turn.rock, today)) {
                    turns.set(turns.indexOf(turn), turn.on(today + 1));
                    missed++;
                    doubled[turn.rock] = true;
                    continue;
                }
                turns.remove(turn);
                if (tryTurn(turn)) {
                    done++;
                    lastDone = turn.id == watchedId ? today : lastDone;
                } else {
                    dropped++;
                }
            }
            for (int rock = 0; rock < rocks.size(); rock++) {
                rocks.get(rock)[3] += doubled[rock] ? 1 : 0;
                for (int store = 0; store < 3; store++) {
                    int[] row = stores.get(rock)[store];
                    for (int unit = need(rock, store); unit > 0; unit--) {
                        int where = row[0] > row[1] ? 2 : 3;
                        row[0] -= where == 2 ? 1 : 0;
                        row[where]++;
                    }
                }
            }
            for (int[] keeper : keepers) {
                if (keeper[1] == NONE) {
                    boolean leave = keeper[2] >= 4;
                    keeper[leave ? 5 : 6]++;
                    keeper[2] -= leave ? 4 : 0;
                } else {
                    int units = keeper[0] == 0 ? 0 : keeper[0] + 1;
                    keeper[2] += doubled[keeper[1]] ? 2 * units : units;
                    keeper[3]++;
                    keeper[4] += doubled[keeper[1]] ? 1 : 0;
                }
            }
            today++;
        }

        private boolean tryTurn(Turn turn) {
            if (turn.kind == 2) {
                int[] row = stores.get(turn.rock)[turn.store];
                int after = Math.min(999, row[0] + turn.amount);
                row[4] += after - row[0];
                row[0] = after;
                return true;
            }
            if (turn.in != NONE && keepers.get(turn.in)[1] != turn.rock) {
                return false;
            }
            int others = on(turn.rock) - (turn.in == NONE ? 0 : 1);
            if (turn.out != NONE && (keepers.get(turn.out)[1] != NONE || others == rocks.get(turn.rock)[2])) {
                return false;
            }
            if (turn.in != NONE) {
                keepers.get(turn.in)[1] = NONE;
            }
            if (turn.out != NONE) {
                keepers.get(turn.out)[1] = turn.rock;
            }
            return true;
        }
    }

    private record Everything(Place place, Place[] slots) {
    }

    private Place place = new Place();
    private Place[] slots = new Place[2];
    private final Deque<Everything> history = new ArrayDeque<>();
    private String text = "";

    Model() {
        Arrays.fill(place.tides, 50);
        Arrays.fill(place.swells, 3);
    }

    /** A call by its name. */
    int call(String name, int... a) {
        switch (name) {
            case "setTide": case "setSwell": case "addRock": case "setKeep": case "come": case "relieve": case "change":
            case "bring": case "cancel": case "exchange": case "pass": case "take": case "restore":
                return action(() -> act(name, a));
            case "run": return action(this::program);
            case "undo": return undo();
            case "append": return append(a[0]);
            case "clearText": {
                int before = text.length();
                text = "";
                return before;
            }
            case "count": return in(a[0], 0, 10) ? counts()[a[0]] : INVALID;
            case "rock": return rock(a[0]) && in(a[1], 0, 6) ? rockParts(a[0])[a[1]] : INVALID;
            case "store": return rock(a[0]) && in(a[1], 0, 2) && in(a[2], 0, 5) ? storePart(a[0], a[1], a[2]) : INVALID;
            case "keeper": return keeper(a[0]) && in(a[1], 0, 6) ? place.keepers.get(a[0])[a[1]] : INVALID;
            case "turn": return turn(a[0]) && in(a[1], 0, 6) ? place.turns.get(a[0]).part(a[1]) : INVALID;
            case "sea": return in(a[0], 0, 199) && in(a[1], 0, 1)
                    ? (a[1] == 0 ? place.tides[a[0] % 14] : place.swells[a[0]]) : INVALID;
            default: return forecast(name, a);
        }
    }

    private int forecast(String name, int[] a) {
        switch (name) {
            case "landing":
                return rock(a[0]) && in(a[1], 0, 199)
                        ? days(a[1], 199, day -> place.lands(a[0], day)).findFirst().orElse(NONE) : INVALID;
            case "landings":
                return rock(a[0]) && in(a[1], 0, 199) && in(a[2], a[1], 199)
                        ? (int) days(a[1], a[2], day -> place.lands(a[0], day)).count() : INVALID;
            case "cutOff": return cutOff(a[0], a[1], a[2]);
            case "lasts": return lasts(a[0], a[1]);
            case "doneOn": return doneOn(a[0]);
            case "later": return later(a[0], a[1], a[2]);
            case "nextOut":
                return choose(keeper -> place.keepers.get(keeper)[1] == NONE
                        && place.turns.stream().noneMatch(turn -> turn.out == keeper), 3, -1, 0);
            case "nextIn":
                return choose(keeper -> place.keepers.get(keeper)[1] != NONE
                        && place.turns.stream().noneMatch(turn -> turn.in == keeper), 2, 1, 4);
            default: throw new IllegalArgumentException(name);
        }
    }

    private static IntStream days(int from, int to, IntPredicate wanted) {
        return IntStream.rangeClosed(from, to).filter(wanted);
    }

    private static boolean in(int value, int least, int greatest) {
        return least <= value && value <= greatest;
    }

    private boolean rock(int rock) {
        return in(rock, 0, place.rocks.size() - 1);
    }

    private boolean keeper(int keeper) {
        return in(keeper, 0, place.keepers.size() - 1);
    }

    private boolean turn(int turn) {
        return in(turn, 0, place.turns.size() - 1);
    }

    private int action(IntSupplier body) {
        Everything before = new Everything(place.copy(), slots.clone());
        int answer = body.getAsInt();
        if (answer < 0) {
            place = before.place;
            slots = before.slots;
            return answer;
        }
        history.addLast(before);
        if (history.size() > 5) {
            history.removeFirst();
        }
        return answer;
    }

    private int undo() {
        if (history.isEmpty()) {
            return ILLEGAL;
        }
        Everything latest = history.removeLast();
        place = latest.place;
        slots = latest.slots;
        return history.size();
    }

    private int append(int character) {
        if (!in(character, 1, 255)) {
            return INVALID;
        }
        if (text.length() == 140) {
            return FULL;
        }
        text += (char) character;
        return text.length();
    }

    private int act(String name, int[] a) {
        switch (name) {
            case "setTide": {
                if (!in(a[0], 0, 13) || !in(a[1], 0, 99)) {
                    return INVALID;
                }
                int before = place.tides[a[0]];
                place.tides[a[0]] = a[1];
                return before;
            }
            case "setSwell": {
                if (!in(a[0], 0, 199) || !in(a[1], 0, 9)) {
                    return INVALID;
                }
                if (a[0] < place.today) {
                    return ILLEGAL;
                }
                int before = place.swells[a[0]];
                place.swells[a[0]] = a[1];
                return before;
            }
            case "addRock":
                if (!in(a[0], 0, 99) || !in(a[1], 0, 9) || !in(a[2], 1, 3)) {
                    return INVALID;
                }
                if (place.rocks.size() == 3) {
                    return FULL;
                }
                place.rocks.add(new int[] {a[0], a[1], a[2], 0});
                place.stores.add(new int[3][5]);
                return place.rocks.size() - 1;
            case "setKeep": {
                if (!rock(a[0]) || !in(a[1], 0, 2) || !in(a[2], 0, 999)) {
                    return INVALID;
                }
                int[] row = place.stores.get(a[0])[a[1]];
                if (a[2] > row[0]) {
                    return ILLEGAL;
                }
                int before = row[1];
                row[1] = a[2];
                return before;
            }
            case "come":
                if (!in(a[0], 0, 2)) {
                    return INVALID;
                }
                if (place.keepers.size() == 8) {
                    return FULL;
                }
                place.keepers.add(new int[] {a[0], NONE, 0, 0, 0, 0, 0});
                return place.keepers.size() - 1;
            case "take":
                if (!in(a[0], 0, 1)) {
                    return INVALID;
                }
                slots[a[0]] = place.copy();
                return place.today;
            case "restore":
                if (!in(a[0], 0, 1)) {
                    return INVALID;
                }
                if (slots[a[0]] == null) {
                    return ILLEGAL;
                }
                place = slots[a[0]].copy();
                return place.today;
            default: return actOnTurns(name, a);
        }
    }

    private int actOnTurns(String name, int[] a) {
        int id = place.nextId;
        switch (name) {
            case "relieve":
                return !rock(a[0]) || !in(a[1], 0, 199) || !keeper(a[2]) || !keeper(a[3]) || a[2] == a[3] ? INVALID
                        : plan(new Turn(id, 0, a[0], a[1], a[2], a[3], NONE, NONE));
            case "change":
                return !rock(a[0]) || !in(a[1], 0, 199) || !keeper(a[2]) || !in(a[3], 0, 1) ? INVALID
                        : plan(new Turn(id, 1, a[0], a[1], a[3] == 0 ? a[2] : NONE, a[3] == 1 ? a[2] : NONE, NONE, NONE));
            case "bring":
                return !rock(a[0]) || !in(a[1], 0, 199) || !in(a[2], 0, 2) || !in(a[3], 1, 300) ? INVALID
                        : plan(new Turn(id, 2, a[0], a[1], NONE, NONE, a[2], a[3]));
            case "cancel":
                if (!turn(a[0])) {
                    return INVALID;
                }
                place.turns.remove(a[0]);
                return place.turns.size();
            case "exchange": {
                if (!turn(a[0]) || !turn(a[1]) || a[0] == a[1]) {
                    return INVALID;
                }
                Turn one = place.turns.get(a[0]);
                Turn other = place.turns.get(a[1]);
                if (one.kind != 0 || other.kind != 0 || one.in == other.out || other.in == one.out) {
                    return ILLEGAL;
                }
                place.turns.set(a[0], one.goingOut(other.out));
                place.turns.set(a[1], other.goingOut(one.out));
                return other.out;
            }
            case "pass": {
                if (!in(a[0], 1, 60)) {
                    return INVALID;
                }
                if (place.today + a[0] > 199) {
                    return ILLEGAL;
                }
                int before = place.missed;
                for (int day = 0; day < a[0]; day++) {
                    place.dayPasses(NONE);
                }
                return place.missed - before;
            }
            default: throw new IllegalArgumentException(name);
        }
    }

    private int plan(Turn turn) {
        if (turn.day < place.today) {
            return ILLEGAL;
        }
        if (place.turns.size() == 12) {
            return FULL;
        }
        place.turns.add(turn);
        place.nextId++;
        return place.turns.size();
    }

    private int program() {
        List<String> tokens = new ArrayList<>();
        List<Integer> places = new ArrayList<>();
        Matcher matcher = TOKEN.matcher(text);
        while (matcher.find()) {
            tokens.add(matcher.group());
            places.add(matcher.start());
        }
        tokens.add("");
        places.add(text.length());
        int commands = 0;
        int at = 0;
        while (at < tokens.size() - 1) {
            int numbers = List.of("keeper", "pass").contains(tokens.get(at)) ? 1
                    : tokens.get(at).equals("swell") ? 2
                    : List.of("rock", "out", "ashore").contains(tokens.get(at)) ? 3
                    : List.of("relief", "bring").contains(tokens.get(at)) ? 4 : 0;
            if (numbers == 0) {
                return -1000 - places.get(at);
            }
            int[] a = new int[4];
            for (int number = 0; number < numbers; number++) {
                String token = tokens.get(at + 1 + number);
                if (!token.matches("0|[1-9][0-9]{0,3}")) {
                    return -1000 - places.get(at + 1 + number);
                }
                a[number] = Integer.parseInt(token);
            }
            if (!tokens.get(at + 1 + numbers).equals(";")) {
                return -1000 - places.get(at + 1 + numbers);
            }
            if (command(tokens.get(at), a) < 0) {
                return -1000 - places.get(at);
            }
            commands++;
            at += numbers + 2;
        }
        text = "";
        return commands;
    }

    private int command(String word, int[] a) {
        switch (word) {
            case "rock": return act("addRock", a);
            case "keeper": return act("come", a);
            case "relief": return act("relieve", a);
            case "out": return act("change", new int[] {a[0], a[1], a[2], 1});
            case "ashore": return act("change", new int[] {a[0], a[1], a[2], 0});
            case "bring": return act("bring", a);
            case "swell": return act("setSwell", a);
            default: return act("pass", a);
        }
    }

    private int[] counts() {
        return new int[] {place.today, place.rocks.size(), place.keepers.size(), place.turns.size(), place.on(NONE), place.done,
            place.dropped, place.missed, (slots[0] == null ? 0 : 1) + (slots[1] == null ? 0 : 1), history.size(), text.length()};
    }

    private int[] rockParts(int rock) {
        int[] row = place.rocks.get(rock);
        int turns = (int) place.turns.stream().filter(turn -> turn.rock == rock).count();
        int first = IntStream.range(0, place.keepers.size()).filter(keeper -> place.keepers.get(keeper)[1] == rock)
                .findFirst().orElse(NONE);
        return new int[] {row[0], row[1], row[2], place.on(rock), turns, row[3], first};
    }

    private int storePart(int rock, int store, int what) {
        return what == 5 ? place.need(rock, store) : place.stores.get(rock)[store][what];
    }

    private int cutOff(int rocks, int from, int to) {
        if (!in(rocks, 1, (1 << place.rocks.size()) - 1) || !in(from, 0, 199) || !in(to, from, 199)) {
            return INVALID;
        }
        StringBuilder signs = new StringBuilder();
        for (int day = from; day <= to; day++) {
            int today = day;
            signs.append(IntStream.range(0, 3).anyMatch(rock -> (rocks & 1 << rock) != 0 && place.lands(rock, today)) ? ' ' : 'x');
        }
        return Arrays.stream(signs.toString().split(" ")).mapToInt(String::length).max().orElse(0);
    }

    private int lasts(int rock, int store) {
        if (!rock(rock) || !in(store, 0, 2)) {
            return INVALID;
        }
        int need = place.need(rock, store);
        if (need == 0) {
            return NONE;
        }
        int[] row = place.stores.get(rock)[store];
        int days = 0;
        for (int left = row[0] - need; left >= row[1]; left -= need) {
            days++;
        }
        return days;
    }

    private int doneOn(int turn) {
        if (!turn(turn)) {
            return INVALID;
        }
        Place then = place.copy();
        int id = place.turns.get(turn).id;
        while (then.today < 199) {
            then.dayPasses(id);
        }
        return then.lastDone;
    }

    private int later(int keeper, int days, int what) {
        if (!keeper(keeper) || !in(days, 0, 60) || !in(what, 0, 6)) {
            return INVALID;
        }
        if (place.today + days > 199) {
            return ILLEGAL;
        }
        Place then = place.copy();
        for (int day = 0; day < days; day++) {
            then.dayPasses(NONE);
        }
        return then.keepers.get(keeper)[what];
    }

    /** The keeper with the greatest signed first part (the fewest if wanted so), then the greatest second part. */
    private int choose(IntPredicate eligible, int first, int sign, int second) {
        return IntStream.range(0, place.keepers.size()).filter(eligible).boxed().min((one, other) -> {
            int[] a = place.keepers.get(one);
            int[] b = place.keepers.get(other);
            int order = Integer.compare(sign * b[first], sign * a[first]);
            return order != 0 ? order : Integer.compare(b[second], a[second]);
        }).orElse(NONE);
    }
}
