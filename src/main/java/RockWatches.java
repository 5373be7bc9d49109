/** A rota of lighthouses on rocks; README.md tells how to use it, the document what it promises. */
public final class RockWatches {
    public static final int INVALID_ARGUMENT = -1;
    public static final int ILLEGAL_STATE = -2;
    public static final int CAPACITY_EXCEEDED = -3;
    public static final int NONE = -9;

    private static final int DAYS = 200;
    private static final int LAST_DAY = DAYS - 1;
    private static final int MOST_DAYS_AT_ONCE = 60;
    private static final int TIDES = 14;
    private static final int HIGHEST_TIDE = 99;
    private static final int FIRST_TIDE = 50;
    private static final int GREATEST_SWELL = 9;
    private static final int FIRST_SWELL = 3;

    private static final int ROCKS = 3;
    private static final int MOST_POSTS = 3;
    private static final int STORES = 3;
    private static final int FOOD = 0;
    private static final int OIL = 1;
    private static final int FULL_STORE = 999;

    private static final int KEEPERS = 8;
    private static final int OCCASIONAL = 0;
    private static final int ASSISTANT = 1;
    private static final int PRINCIPAL = 2;
    private static final int UNITS_OF_A_LEAVE_DAY = 4;

    private static final int TURNS = 12;
    private static final int RELIEF = 0;
    private static final int CHANGE = 1;
    private static final int DELIVERY = 2;
    private static final int GREATEST_DELIVERY = 300;

    private static final int SLOTS = 2;
    private static final int STATES = 5;

    private static final int LONGEST_TEXT = 140;
    private static final int LONGEST_NUMBER = 4;
    private static final int MOST_NUMBERS = 4;
    private static final int WORD_ROCK = 0;
    private static final int WORD_KEEPER = 1;
    private static final int WORD_RELIEF = 2;
    private static final int WORD_OUT = 3;
    private static final int WORD_ASHORE = 4;
    private static final int WORD_BRING = 5;
    private static final int WORD_SWELL = 6;
    private static final int WORD_PASS = 7;
    private static final int NO_PROGRAM = -1000;

    private final State state = new State();
    private final History history = new History();
    private final Text text = new Text();
    // Forecasts let days pass in here, so that they change nothing.
    private final World forecast = new World();

    public RockWatches() {
    }

    // ---- sea, rocks and stores

    public int setTide(int number, int height) {
        prepare();
        return conclude(state.world.putTide(number, height));
    }

    public int setSwell(int day, int swell) {
        prepare();
        return conclude(state.world.putSwell(day, swell));
    }

    public int addRock(int height, int swell, int posts) {
        prepare();
        return conclude(state.world.placeRock(height, swell, posts));
    }

    public int setKeep(int rock, int store, int keep) {
        prepare();
        return conclude(state.world.putKeep(rock, store, keep));
    }

    // ---- keepers and turns

    public int come(int rank) {
        prepare();
        return conclude(state.world.addKeeper(rank));
    }

    public int relieve(int rock, int day, int in, int out) {
        prepare();
        return conclude(state.world.planRelief(rock, day, in, out));
    }

    public int change(int rock, int day, int keeper, int out) {
        prepare();
        return conclude(state.world.planChange(rock, day, keeper, out));
    }

    public int bring(int rock, int day, int store, int amount) {
        prepare();
        return conclude(state.world.planDelivery(rock, day, store, amount));
    }

    public int cancel(int turn) {
        prepare();
        return conclude(state.world.removeTurn(turn));
    }

    public int exchange(int one, int other) {
        prepare();
        return conclude(state.world.swapKeepersOut(one, other));
    }

    public int pass(int days) {
        prepare();
        return conclude(state.world.passDays(days));
    }

    // ---- snapshots

    public int take(int slot) {
        prepare();
        return conclude(state.keepSnapshot(slot));
    }

    public int restore(int slot) {
        prepare();
        return conclude(state.returnToSnapshot(slot));
    }

    public int undo() {
        if (history.size == 0) {
            return ILLEGAL_STATE;
        }
        history.makeLatestSpare();
        state.copyFrom(history.spare());
        return history.size;
    }

    // ---- programs

    public int append(int character) {
        if (!within(character, 1, 255)) {
            return INVALID_ARGUMENT;
        }
        return text.add((char) character) ? text.length : CAPACITY_EXCEEDED;
    }

    public int clearText() {
        int before = text.length;
        text.length = 0;
        return before;
    }

    public int run() {
        prepare();
        int commands = 0;
        int failure = 0;
        text.rewind();
        while (failure == 0 && commands < LONGEST_TEXT && text.readToken()) {
            int place = text.start;
            int word = text.word();
            if (!text.readRest(word)) {
                failure = NO_PROGRAM - text.start;
            } else if (obey(word) < 0) {
                failure = NO_PROGRAM - place;
            } else {
                commands++;
            }
        }
        if (failure < 0) {
            state.copyFrom(history.spare());
            return failure;
        }
        text.length = 0;
        return conclude(commands);
    }

    // ---- looking

    public int count(int what) {
        switch (what) {
            case 0: return state.world.today;
            case 1: return state.world.rockCount;
            case 2: return state.world.keeperCount;
            case 3: return state.world.turnCount;
            case 4: return state.world.keepersAt(NONE);
            case 5: return state.world.done;
            case 6: return state.world.dropped;
            case 7: return state.world.missed;
            case 8: return state.snapshotCount();
            case 9: return history.size;
            case 10: return text.length;
            default: return INVALID_ARGUMENT;
        }
    }

    public int rock(int rock, int what) {
        return state.world.rockPart(rock, what);
    }

    public int store(int rock, int store, int what) {
        return state.world.storePart(rock, store, what);
    }

    public int keeper(int keeper, int what) {
        return state.world.keeperPart(keeper, what);
    }

    public int turn(int turn, int what) {
        return state.world.turnPart(turn, what);
    }

    public int sea(int day, int what) {
        return state.world.seaPart(day, what);
    }

    // ---- forecasts, which change nothing

    public int landing(int rock, int from) {
        return state.world.firstLanding(rock, from);
    }

    public int landings(int rock, int from, int to) {
        return state.world.landingDays(rock, from, to);
    }

    public int cutOff(int rocks, int from, int to) {
        return state.world.longestCutOff(rocks, from, to);
    }

    public int lasts(int rock, int store) {
        return state.world.daysEnough(rock, store);
    }

    public int doneOn(int turn) {
        forecast.copyFrom(state.world);
        return forecast.passUntilDone(turn);
    }

    public int later(int keeper, int days, int what) {
        forecast.copyFrom(state.world);
        return forecast.keeperPartBehind(keeper, days, what);
    }

    public int nextOut() {
        return state.world.nextToGoOut();
    }

    public int nextIn() {
        return state.world.nextToComeIn();
    }

    // ---- actions

    /** Puts the present state by, before it is known whether the action succeeds. */
    private void prepare() {
        history.spare().copyFrom(state);
    }

    /** Records the state that was put by, if the action has succeeded. */
    private int conclude(int answer) {
        if (answer >= 0) {
            history.recordSpare();
        }
        return answer;
    }

    /** Does what a command of the text says, with the numbers behind its word. */
    private int obey(int word) {
        int[] numbers = text.numbers;
        switch (word) {
            case WORD_ROCK: return state.world.placeRock(numbers[0], numbers[1], numbers[2]);
            case WORD_KEEPER: return state.world.addKeeper(numbers[0]);
            case WORD_RELIEF: return state.world.planRelief(numbers[0], numbers[1], numbers[2], numbers[3]);
            case WORD_OUT: return state.world.planChange(numbers[0], numbers[1], numbers[2], 1);
            case WORD_ASHORE: return state.world.planChange(numbers[0], numbers[1], numbers[2], 0);
            case WORD_BRING: return state.world.planDelivery(numbers[0], numbers[1], numbers[2], numbers[3]);
            case WORD_SWELL: return state.world.putSwell(numbers[0], numbers[1]);
            case WORD_PASS: return state.world.passDays(numbers[0]);
            default: return INVALID_ARGUMENT;
        }
    }

    private static boolean within(int value, int least, int greatest) {
        return value >= least && value <= greatest;
    }

    /** One store of a rock, with its accounts. */
    private static final class Store {
        int amount;
        int keep;
        int eaten;
        int lacking;
        int delivered;

        void copyFrom(Store other) {
            amount = other.amount;
            keep = other.keep;
            eaten = other.eaten;
            lacking = other.lacking;
            delivered = other.delivered;
        }

        void receive(int quantity) {
            int taken = Math.min(quantity, FULL_STORE - amount);
            amount += taken;
            delivered += taken;
        }

        void feed(int need) {
            int given = Math.min(need, amount - keep);
            amount -= given;
            eaten += given;
            lacking += need - given;
        }

        static int need(int store, int keepers) {
            if (store == OIL) {
                return keepers > 0 ? 5 : 0;
            }
            return store == FOOD ? 3 * keepers : 2 * keepers;
        }
    }

    /** A rock with its stores. */
    private static final class Rock {
        int height;
        int swell;
        int posts;
        int doubledDays;
        int lastDoubled = NONE;
        final Store[] stores = new Store[STORES];

        Rock() {
            for (int store = 0; store < STORES; store++) {
                stores[store] = new Store();
            }
        }

        void start(int leastHeight, int greatestSwell, int postCount) {
            height = leastHeight;
            swell = greatestSwell;
            posts = postCount;
        }

        void copyFrom(Rock other) {
            height = other.height;
            swell = other.swell;
            posts = other.posts;
            doubledDays = other.doubledDays;
            lastDoubled = other.lastDoubled;
            for (int store = 0; store < STORES; store++) {
                stores[store].copyFrom(other.stores[store]);
            }
        }

        /** Doubles a day, once however often it is asked for. */
        void doubleDay(int day) {
            if (lastDoubled != day) {
                lastDoubled = day;
                doubledDays++;
            }
        }
    }

    /** A keeper with the accounts of the days. */
    private static final class Keeper {
        int rank;
        int rock = NONE;
        int owed;
        int daysOut;
        int doubledDays;
        int leaveDays;
        int idleDays;

        void copyFrom(Keeper other) {
            rank = other.rank;
            rock = other.rock;
            owed = other.owed;
            daysOut = other.daysOut;
            doubledDays = other.doubledDays;
            leaveDays = other.leaveDays;
            idleDays = other.idleDays;
        }

        void spendDayOut(boolean doubled) {
            int units = unitsOfADay(rank);
            daysOut++;
            owed += units;
            if (doubled) {
                owed += units;
                doubledDays++;
            }
        }

        void spendDayAshore() {
            if (owed >= UNITS_OF_A_LEAVE_DAY) {
                owed -= UNITS_OF_A_LEAVE_DAY;
                leaveDays++;
            } else {
                idleDays++;
            }
        }

        boolean goesOutBefore(Keeper other) {
            return daysOut != other.daysOut ? daysOut < other.daysOut : rank > other.rank;
        }

        boolean comesInBefore(Keeper other) {
            return owed != other.owed ? owed > other.owed : doubledDays > other.doubledDays;
        }

        static int unitsOfADay(int rank) {
            switch (rank) {
                case ASSISTANT: return 2;
                case PRINCIPAL: return 3;
                default: return 0;
            }
        }
    }

    /** A turn; what it does not have is NONE. */
    private static final class Turn {
        int kind;
        int rock;
        int day;
        int in;
        int out;
        int store;
        int amount;
        int doneOn;

        void start(int turnKind, int turnRock, int turnDay) {
            kind = turnKind;
            rock = turnRock;
            day = turnDay;
            in = NONE;
            out = NONE;
            store = NONE;
            amount = NONE;
            doneOn = NONE;
        }

        void copyFrom(Turn other) {
            kind = other.kind;
            rock = other.rock;
            day = other.day;
            in = other.in;
            out = other.out;
            store = other.store;
            amount = other.amount;
            doneOn = other.doneOn;
        }
    }

    /** All that a snapshot keeps: sea, rocks, stores, keepers, turns, accounts and today. */
    private static final class World {
        int today;
        int done;
        int dropped;
        int missed;
        int rockCount;
        int keeperCount;
        int turnCount;
        final int[] tides = new int[TIDES];
        final int[] swells = new int[DAYS];
        // Rocks and keepers are never removed, only copied with all the rest: those behind the counts are always new.
        final Rock[] rocks = new Rock[ROCKS];
        final Keeper[] keepers = new Keeper[KEEPERS];
        final Turn[] turns = new Turn[TURNS];

        World() {
            for (int tide = 0; tide < TIDES; tide++) {
                tides[tide] = FIRST_TIDE;
            }
            for (int day = 0; day < DAYS; day++) {
                swells[day] = FIRST_SWELL;
            }
            for (int rock = 0; rock < ROCKS; rock++) {
                rocks[rock] = new Rock();
            }
            for (int keeper = 0; keeper < KEEPERS; keeper++) {
                keepers[keeper] = new Keeper();
            }
            for (int turn = 0; turn < TURNS; turn++) {
                turns[turn] = new Turn();
            }
        }

        void copyFrom(World other) {
            today = other.today;
            done = other.done;
            dropped = other.dropped;
            missed = other.missed;
            rockCount = other.rockCount;
            keeperCount = other.keeperCount;
            turnCount = other.turnCount;
            System.arraycopy(other.tides, 0, tides, 0, TIDES);
            System.arraycopy(other.swells, 0, swells, 0, DAYS);
            for (int rock = 0; rock < ROCKS; rock++) {
                rocks[rock].copyFrom(other.rocks[rock]);
            }
            for (int keeper = 0; keeper < KEEPERS; keeper++) {
                keepers[keeper].copyFrom(other.keepers[keeper]);
            }
            for (int turn = 0; turn < TURNS; turn++) {
                turns[turn].copyFrom(other.turns[turn]);
            }
        }

        boolean hasRock(int rock) {
            return rock >= 0 && rock < rockCount;
        }

        boolean hasStore(int rock, int store) {
            return hasRock(rock) && store >= 0 && store < STORES;
        }

        boolean hasKeeper(int keeper) {
            return keeper >= 0 && keeper < keeperCount;
        }

        boolean hasTurn(int turn) {
            return turn >= 0 && turn < turnCount;
        }

        static boolean isDay(int day) {
            return day >= 0 && day < DAYS;
        }

        // ---- the sea

        int putTide(int number, int height) {
            if (!within(number, 0, TIDES - 1) || !within(height, 0, HIGHEST_TIDE)) {
                return INVALID_ARGUMENT;
            }
            int before = tides[number];
            tides[number] = height;
            return before;
        }

        int putSwell(int day, int swell) {
            if (!isDay(day) || !within(swell, 0, GREATEST_SWELL)) {
                return INVALID_ARGUMENT;
            }
            if (day < today) {
                return ILLEGAL_STATE;
            }
            int before = swells[day];
            swells[day] = swell;
            return before;
        }

        int seaPart(int day, int what) {
            if (!isDay(day) || !within(what, 0, 1)) {
                return INVALID_ARGUMENT;
            }
            return what == 0 ? tides[day % TIDES] : swells[day];
        }

        boolean allowsLanding(Rock rock, int day) {
            return isDay(day) && tides[day % TIDES] >= rock.height && swells[day] <= rock.swell;
        }

        int firstLanding(int rock, int from) {
            if (!hasRock(rock) || !isDay(from)) {
                return INVALID_ARGUMENT;
            }
            for (int day = from; day < DAYS; day++) {
                if (allowsLanding(rocks[rock], day)) {
                    return day;
                }
            }
            return NONE;
        }

        int landingDays(int rock, int from, int to) {
            if (!hasRock(rock) || !isDay(from) || !within(to, from, LAST_DAY)) {
                return INVALID_ARGUMENT;
            }
            int days = 0;
            for (int day = from; day <= to; day++) {
                if (allowsLanding(rocks[rock], day)) {
                    days++;
                }
            }
            return days;
        }

        int longestCutOff(int rockSet, int from, int to) {
            int allRocks = (1 << rockCount) - 1;
            if (!within(rockSet, 1, allRocks) || !isDay(from) || !within(to, from, LAST_DAY)) {
                return INVALID_ARGUMENT;
            }
            int longest = 0;
            int days = 0;
            for (int day = from; day <= to; day++) {
                days = allowsLandingOnAny(rockSet, day) ? 0 : days + 1;
                longest = Math.max(longest, days);
            }
            return longest;
        }

        boolean allowsLandingOnAny(int rockSet, int day) {
            for (int rock = 0; rock < rockCount; rock++) {
                if ((rockSet >> rock & 1) == 1 && allowsLanding(rocks[rock], day)) {
                    return true;
                }
            }
            return false;
        }

        // ---- rocks and stores

        int placeRock(int height, int swell, int posts) {
            if (!within(height, 0, HIGHEST_TIDE) || !within(swell, 0, GREATEST_SWELL)
                    || !within(posts, 1, MOST_POSTS)) {
                return INVALID_ARGUMENT;
            }
            if (rockCount >= ROCKS) {
                return CAPACITY_EXCEEDED;
            }
            rocks[rockCount].start(height, swell, posts);
            rockCount++;
            return rockCount - 1;
        }

        int rockPart(int rock, int what) {
            if (!hasRock(rock)) {
                return INVALID_ARGUMENT;
            }
            switch (what) {
                case 0: return rocks[rock].height;
                case 1: return rocks[rock].swell;
                case 2: return rocks[rock].posts;
                case 3: return keepersAt(rock);
                case 4: return turnsFor(rock);
                case 5: return rocks[rock].doubledDays;
                case 6: return firstKeeperOn(rock);
                default: return INVALID_ARGUMENT;
            }
        }

        int turnsFor(int rock) {
            int found = 0;
            for (int turn = 0; turn < turnCount; turn++) {
                if (turns[turn].rock == rock) {
                    found++;
                }
            }
            return found;
        }

        int firstKeeperOn(int rock) {
            for (int keeper = 0; keeper < keeperCount; keeper++) {
                if (keepers[keeper].rock == rock) {
                    return keeper;
                }
            }
            return NONE;
        }

        int putKeep(int rock, int store, int keep) {
            if (!hasStore(rock, store) || !within(keep, 0, FULL_STORE)) {
                return INVALID_ARGUMENT;
            }
            Store kept = rocks[rock].stores[store];
            if (keep > kept.amount) {
                return ILLEGAL_STATE;
            }
            int before = kept.keep;
            kept.keep = keep;
            return before;
        }

        int storePart(int rock, int store, int what) {
            if (!hasStore(rock, store)) {
                return INVALID_ARGUMENT;
            }
            Store seen = rocks[rock].stores[store];
            switch (what) {
                case 0: return seen.amount;
                case 1: return seen.keep;
                case 2: return seen.eaten;
                case 3: return seen.lacking;
                case 4: return seen.delivered;
                case 5: return Store.need(store, keepersAt(rock));
                default: return INVALID_ARGUMENT;
            }
        }

        int daysEnough(int rock, int store) {
            if (!hasStore(rock, store)) {
                return INVALID_ARGUMENT;
            }
            int need = Store.need(store, keepersAt(rock));
            if (need == 0) {
                return NONE;
            }
            Store left = rocks[rock].stores[store];
            return (left.amount - left.keep) / need;
        }

        // ---- keepers

        int addKeeper(int rank) {
            if (!within(rank, OCCASIONAL, PRINCIPAL)) {
                return INVALID_ARGUMENT;
            }
            if (keeperCount >= KEEPERS) {
                return CAPACITY_EXCEEDED;
            }
            keepers[keeperCount].rank = rank;
            keeperCount++;
            return keeperCount - 1;
        }

        int keeperPart(int keeper, int what) {
            if (!hasKeeper(keeper)) {
                return INVALID_ARGUMENT;
            }
            Keeper seen = keepers[keeper];
            switch (what) {
                case 0: return seen.rank;
                case 1: return seen.rock;
                case 2: return seen.owed;
                case 3: return seen.daysOut;
                case 4: return seen.doubledDays;
                case 5: return seen.leaveDays;
                case 6: return seen.idleDays;
                default: return INVALID_ARGUMENT;
            }
        }

        /** The number of keepers on a rock, or ashore if the rock is NONE. */
        int keepersAt(int rock) {
            int found = 0;
            for (int keeper = 0; keeper < keeperCount; keeper++) {
                if (keepers[keeper].rock == rock) {
                    found++;
                }
            }
            return found;
        }

        boolean isAt(int keeper, int rock) {
            return hasKeeper(keeper) && keepers[keeper].rock == rock;
        }

        void moveTo(int keeper, int rock) {
            if (hasKeeper(keeper)) {
                keepers[keeper].rock = rock;
            }
        }

        int nextToGoOut() {
            int next = NONE;
            for (int keeper = 0; keeper < keeperCount; keeper++) {
                if (keepers[keeper].rock == NONE && !isToGoOut(keeper)
                        && (!hasKeeper(next) || keepers[keeper].goesOutBefore(keepers[next]))) {
                    next = keeper;
                }
            }
            return next;
        }

        boolean isToGoOut(int keeper) {
            for (int turn = 0; turn < turnCount; turn++) {
                if (turns[turn].out == keeper) {
                    return true;
                }
            }
            return false;
        }

        int nextToComeIn() {
            int next = NONE;
            for (int keeper = 0; keeper < keeperCount; keeper++) {
                if (keepers[keeper].rock != NONE && !isToComeIn(keeper)
                        && (!hasKeeper(next) || keepers[keeper].comesInBefore(keepers[next]))) {
                    next = keeper;
                }
            }
            return next;
        }

        boolean isToComeIn(int keeper) {
            for (int turn = 0; turn < turnCount; turn++) {
                if (turns[turn].in == keeper) {
                    return true;
                }
            }
            return false;
        }

        // ---- turns

        int planRelief(int rock, int day, int in, int out) {
            if (!hasRock(rock) || !isDay(day) || !hasKeeper(in) || !hasKeeper(out) || in == out) {
                return INVALID_ARGUMENT;
            }
            int answer = plan(RELIEF, rock, day);
            if (hasTurn(answer - 1)) {
                turns[answer - 1].in = in;
                turns[answer - 1].out = out;
            }
            return answer;
        }

        int planChange(int rock, int day, int keeper, int out) {
            if (!hasRock(rock) || !isDay(day) || !hasKeeper(keeper) || !within(out, 0, 1)) {
                return INVALID_ARGUMENT;
            }
            int answer = plan(CHANGE, rock, day);
            if (hasTurn(answer - 1)) {
                turns[answer - 1].in = out == 1 ? NONE : keeper;
                turns[answer - 1].out = out == 1 ? keeper : NONE;
            }
            return answer;
        }

        int planDelivery(int rock, int day, int store, int amount) {
            if (!hasStore(rock, store) || !isDay(day) || !within(amount, 1, GREATEST_DELIVERY)) {
                return INVALID_ARGUMENT;
            }
            int answer = plan(DELIVERY, rock, day);
            if (hasTurn(answer - 1)) {
                turns[answer - 1].store = store;
                turns[answer - 1].amount = amount;
            }
            return answer;
        }

        /** Puts a turn at the end of the row; returns the number of turns or an error code. */
        int plan(int kind, int rock, int day) {
            if (day < today) {
                return ILLEGAL_STATE;
            }
            if (turnCount >= TURNS) {
                return CAPACITY_EXCEEDED;
            }
            turns[turnCount].start(kind, rock, day);
            turnCount++;
            return turnCount;
        }

        int removeTurn(int turn) {
            if (!hasTurn(turn)) {
                return INVALID_ARGUMENT;
            }
            Turn removed = turns[turn];
            for (int place = turn + 1; place < turnCount; place++) {
                turns[place - 1] = turns[place];
            }
            turnCount--;
            turns[turnCount] = removed;
            return turnCount;
        }

        int swapKeepersOut(int one, int other) {
            if (!hasTurn(one) || !hasTurn(other) || one == other) {
                return INVALID_ARGUMENT;
            }
            Turn first = turns[one];
            Turn second = turns[other];
            if (first.kind != RELIEF || second.kind != RELIEF || first.in == second.out || second.in == first.out) {
                return ILLEGAL_STATE;
            }
            int before = first.out;
            first.out = second.out;
            second.out = before;
            return first.out;
        }

        int turnPart(int turn, int what) {
            if (!hasTurn(turn)) {
                return INVALID_ARGUMENT;
            }
            Turn seen = turns[turn];
            switch (what) {
                case 0: return seen.kind;
                case 1: return seen.rock;
                case 2: return seen.day;
                case 3: return seen.in;
                case 4: return seen.out;
                case 5: return seen.store;
                case 6: return seen.amount;
                default: return INVALID_ARGUMENT;
            }
        }

        // ---- days

        int passDays(int days) {
            if (!within(days, 1, MOST_DAYS_AT_ONCE)) {
                return INVALID_ARGUMENT;
            }
            if (today + days > LAST_DAY) {
                return ILLEGAL_STATE;
            }
            int missedBefore = missed;
            for (int day = 0; day < days; day++) {
                goThroughTurns();
                eat();
                earn();
                today++;
            }
            return missed - missedBefore;
        }

        int keeperPartBehind(int keeper, int days, int what) {
            if (!hasKeeper(keeper) || !within(days, 0, MOST_DAYS_AT_ONCE) || !within(what, 0, 6)) {
                return INVALID_ARGUMENT;
            }
            if (today + days > LAST_DAY) {
                return ILLEGAL_STATE;
            }
            for (int day = 0; day < days; day++) {
                passDays(1);
            }
            return keeperPart(keeper, what);
        }

        /** Tells the day on which a turn is done. Only turns are gone through: stores and leave decide none of them. */
        int passUntilDone(int turn) {
            if (!hasTurn(turn)) {
                return INVALID_ARGUMENT;
            }
            Turn watched = turns[turn];
            while (today < LAST_DAY && turnCount > 0) {
                goThroughTurns();
                today++;
            }
            return watched.doneOn;
        }

        void goThroughTurns() {
            int left = 0;
            for (int place = 0; place < turnCount; place++) {
                Turn turn = turns[place];
                if (turn.day == today && hasRock(turn.rock)) {
                    Rock rock = rocks[turn.rock];
                    if (!allowsLanding(rock, today)) {
                        turn.day++;
                        missed++;
                        rock.doubleDay(today);
                    } else if (carryOut(turn, rock)) {
                        turn.doneOn = today;
                        done++;
                    } else {
                        dropped++;
                    }
                }
                // Exchanged, not overwritten: the removed turn's object is used again, and a forecast looks at it.
                if (turn.day > today) {
                    turns[place] = turns[left];
                    turns[left] = turn;
                    left++;
                }
            }
            turnCount = left;
        }

        /** Does a turn if it can be done, and tells whether it could. */
        boolean carryOut(Turn turn, Rock rock) {
            if (within(turn.store, 0, STORES - 1)) {
                rock.stores[turn.store].receive(turn.amount);
                return true;
            }
            boolean comes = turn.in != NONE;
            boolean goes = turn.out != NONE;
            if (comes && !isAt(turn.in, turn.rock)) {
                return false;
            }
            if (goes && (!isAt(turn.out, NONE) || !comes && keepersAt(turn.rock) >= rock.posts)) {
                return false;
            }
            moveTo(turn.in, NONE);
            moveTo(turn.out, turn.rock);
            return true;
        }

        void eat() {
            for (int rock = 0; rock < rockCount; rock++) {
                int keepersThere = keepersAt(rock);
                for (int store = 0; store < STORES; store++) {
                    rocks[rock].stores[store].feed(Store.need(store, keepersThere));
                }
            }
        }

        void earn() {
            for (int number = 0; number < keeperCount; number++) {
                Keeper keeper = keepers[number];
                if (hasRock(keeper.rock)) {
                    keeper.spendDayOut(rocks[keeper.rock].lastDoubled == today);
                } else {
                    keeper.spendDayAshore();
                }
            }
        }
    }

    /** A state of the history: everything but the text and the history. */
    private static final class State {
        final World world = new World();
        // A world in here is never changed, so that several states may hold the same one.
        final World[] snapshots = new World[SLOTS];

        void copyFrom(State other) {
            world.copyFrom(other.world);
            for (int slot = 0; slot < SLOTS; slot++) {
                snapshots[slot] = other.snapshots[slot];
            }
        }

        int keepSnapshot(int slot) {
            if (!within(slot, 0, SLOTS - 1)) {
                return INVALID_ARGUMENT;
            }
            World snapshot = new World();
            snapshot.copyFrom(world);
            snapshots[slot] = snapshot;
            return world.today;
        }

        int returnToSnapshot(int slot) {
            if (!within(slot, 0, SLOTS - 1)) {
                return INVALID_ARGUMENT;
            }
            World snapshot = snapshots[slot];
            if (snapshot == null) {
                return ILLEGAL_STATE;
            }
            world.copyFrom(snapshot);
            return world.today;
        }

        int snapshotCount() {
            int taken = 0;
            for (int slot = 0; slot < SLOTS; slot++) {
                if (snapshots[slot] != null) {
                    taken++;
                }
            }
            return taken;
        }
    }

    /** The latest states, in a ring with one place to spare behind them. */
    private static final class History {
        private static final int PLACES = STATES + 1;

        final State[] states = new State[PLACES];
        int oldest;
        int size;

        History() {
            for (int place = 0; place < PLACES; place++) {
                states[place] = new State();
            }
        }

        State spare() {
            return states[Math.floorMod(oldest + size, PLACES)];
        }

        void recordSpare() {
            if (size < STATES) {
                size++;
            } else {
                oldest = (oldest + 1) % PLACES;
            }
        }

        void makeLatestSpare() {
            size--;
        }
    }

    /** The text, and the token of it that was read last: from start to before end. */
    private static final class Text {
        final char[] characters = new char[LONGEST_TEXT];
        final int[] numbers = new int[MOST_NUMBERS];
        int length;
        int start;
        int end;

        /** Adds a character if there is room, and tells whether there was. */
        boolean add(char character) {
            if (length >= LONGEST_TEXT) {
                return false;
            }
            characters[length] = character;
            length++;
            return true;
        }

        void rewind() {
            end = 0;
        }

        /** Reads the next token. Without one it returns false, and start is the length of the text. */
        boolean readToken() {
            start = end;
            while (start < length && characters[start] == ' ') {
                start++;
            }
            end = start;
            if (start >= length) {
                return false;
            }
            char first = characters[start];
            end++;
            while (end < length && goesOn(first, characters[end])) {
                end++;
            }
            return true;
        }

        static boolean goesOn(char first, char next) {
            return isLetter(first) && isLetter(next) || isDigit(first) && isDigit(next);
        }

        static boolean isLetter(char character) {
            return character >= 'a' && character <= 'z';
        }

        static boolean isDigit(char character) {
            return character >= '0' && character <= '9';
        }

        /** The word that the token is, NONE if it is none that begins a command. */
        int word() {
            if (is("rock")) {
                return WORD_ROCK;
            }
            if (is("keeper")) {
                return WORD_KEEPER;
            }
            if (is("relief")) {
                return WORD_RELIEF;
            }
            if (is("out")) {
                return WORD_OUT;
            }
            if (is("ashore")) {
                return WORD_ASHORE;
            }
            if (is("bring")) {
                return WORD_BRING;
            }
            if (is("swell")) {
                return WORD_SWELL;
            }
            return is("pass") ? WORD_PASS : NONE;
        }

        boolean is(String wanted) {
            if (end - start != wanted.length()) {
                return false;
            }
            for (int place = start; place < end; place++) {
                if (characters[place] != wanted.charAt(place - start)) {
                    return false;
                }
            }
            return true;
        }

        static int numbersBehind(int word) {
            switch (word) {
                case WORD_KEEPER:
                case WORD_PASS: return 1;
                case WORD_SWELL: return 2;
                case WORD_ROCK:
                case WORD_OUT:
                case WORD_ASHORE: return 3;
                case WORD_RELIEF:
                case WORD_BRING: return 4;
                default: return 0;
            }
        }

        /** Reads the numbers behind a word and the ";"; at a token that is not allowed it stops and returns false. */
        boolean readRest(int word) {
            int wanted = numbersBehind(word);
            if (!within(wanted, 1, MOST_NUMBERS)) {
                return false;
            }
            for (int place = 0; place < wanted; place++) {
                readToken();
                numbers[place] = number();
                if (numbers[place] == NONE) {
                    return false;
                }
            }
            readToken();
            return is(";");
        }

        /** The number that the token is, NONE if it is none. */
        int number() {
            int digits = end - start;
            if (!within(digits, 1, LONGEST_NUMBER) || !isDigit(characters[start])) {
                return NONE;
            }
            if (digits > 1 && characters[start] == '0') {
                return NONE;
            }
            int value = 0;
            for (int place = start; place < end; place++) {
                value = value * 10 + (characters[place] - '0');
            }
            return value;
        }
    }
}
