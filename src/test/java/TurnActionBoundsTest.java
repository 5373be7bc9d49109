/** The boundary cases of promises 7 to 12, a run for each sentence. */
public final class TurnActionBoundsTest {
    private static final String FULL_ROW = """
            program("rock 0 9 1;keeper 0;keeper 0;pass 3;bring 0 9 0 1;bring 0 9 0 1;bring 0 9 0 1;bring 0 9 0 1;bring 0 9 0 1;") = 9
            program("bring 0 9 0 1;bring 0 9 0 1;bring 0 9 0 1;bring 0 9 0 1;bring 0 9 0 1;bring 0 9 0 1;") = 6
            """;

    private TurnActionBoundsTest() {
    }

    public static void main(String[] arguments) {
        relieve();
        relieveAndStates();
        change();
        changeAndStates();
        bring();
        bringAndStates();
        cancel();
        exchange();
        exchangeAndStates();
        pass();
        passAndStates();
        Script.finish();
    }

    private static void relieve() {
        Script.run("promise 7, rock: a rock, and there is none", "come(0) = 0 come(0) = 1 relieve(0, 0, 0, 1) = INVALID count(3) = 0");
        Script.run("promise 7, rock: a rock", """
                program("rock 0 9 1;rock 0 9 1;rock 0 9 1;keeper 0;keeper 0;") = 5 relieve(-1, 5, 0, 1) = INVALID
                relieve(3, 5, 0, 1) = INVALID relieve(MIN, 5, 0, 1) = INVALID relieve(MAX, 5, 0, 1) = INVALID relieve(0, 5, 0, 1) = 1
                relieve(2, 5, 0, 1) = 2 turn(0, 1) = 0 turn(1, 1) = 2
                """);
        Script.run("promise 7, day: 0 to 199", """
                program("rock 0 9 1;keeper 0;keeper 0;") = 3 relieve(0, -1, 0, 1) = INVALID relieve(0, 200, 0, 1) = INVALID
                relieve(0, MIN, 0, 1) = INVALID relieve(0, MAX, 0, 1) = INVALID relieve(0, 0, 0, 1) = 1 relieve(0, 199, 0, 1) = 2
                turn(0, 2) = 0 turn(1, 2) = 199
                """);
        Script.run("promise 7, in: a keeper", """
                program("rock 0 9 1;keeper 0;keeper 0;keeper 0;") = 4 relieve(0, 5, -1, 1) = INVALID relieve(0, 5, 3, 1) = INVALID
                relieve(0, 5, NONE, 1) = INVALID relieve(0, 5, MIN, 1) = INVALID relieve(0, 5, MAX, 1) = INVALID relieve(0, 5, 0, 1) = 1
                relieve(0, 5, 2, 1) = 2 turn(0, 3) = 0 turn(1, 3) = 2
                """);
        Script.run("promise 7, out: a keeper", """
                program("rock 0 9 1;keeper 0;keeper 0;keeper 0;") = 4 relieve(0, 5, 1, -1) = INVALID relieve(0, 5, 1, 3) = INVALID
                relieve(0, 5, 1, NONE) = INVALID relieve(0, 5, 1, MIN) = INVALID relieve(0, 5, 1, MAX) = INVALID relieve(0, 5, 1, 0) = 1
                relieve(0, 5, 1, 2) = 2 turn(0, 4) = 0 turn(1, 4) = 2
                """);
        Script.run("promise 7, in and out: without keepers, and with 8", """
                addRock(0, 9, 1) = 0 relieve(0, 5, 0, 1) = INVALID
                program("keeper 0;keeper 0;keeper 0;keeper 0;keeper 0;keeper 0;keeper 0;keeper 0;") = 8 relieve(0, 5, 7, 8) = INVALID
                relieve(0, 5, 8, 7) = INVALID relieve(0, 5, 7, 0) = 1 relieve(0, 5, 0, 7) = 2 turn(0, 3) = 7 turn(1, 4) = 7
                """);
        Script.run("promise 7: INVALID_ARGUMENT if both keepers are the same", """
                program("rock 0 9 1;keeper 0;keeper 0;") = 3 relieve(0, 5, 0, 0) = INVALID relieve(0, 5, 1, 1) = INVALID
                relieve(0, 5, 0, 1) = 1 relieve(0, 5, 1, 0) = 2
                """);
    }

    private static void relieveAndStates() {
        Script.run("promise 7: ILLEGAL_STATE if day is before today", """
                program("rock 0 9 1;keeper 0;keeper 0;pass 7;") = 4 relieve(0, 6, 0, 1) = ILLEGAL relieve(0, 0, 0, 1) = ILLEGAL
                relieve(0, 7, 0, 1) = 1 relieve(0, 8, 0, 1) = 2
                """);
        Script.run("promise 7: CAPACITY_EXCEEDED if there are 12 turns, and the number of turns", FULL_ROW + """
                relieve(0, 3, 0, 1) = 12 relieve(0, 3, 0, 1) = FULL relieve(0, 199, 1, 0) = FULL count(3) = 12
                """);
        Script.run("promise 7: INVALID_ARGUMENT comes first, then ILLEGAL_STATE, then CAPACITY_EXCEEDED", FULL_ROW + """
                relieve(0, 2, 0, 0) = INVALID relieve(1, 2, 0, 1) = INVALID relieve(0, 2, 0, 2) = INVALID relieve(0, 2, 2, 0) = INVALID
                relieve(0, 2, 0, 1) = ILLEGAL bring(0, 9, 0, 1) = 12 relieve(0, 2, 0, 0) = INVALID relieve(0, -1, 0, 1) = INVALID
                relieve(0, 3, 0, 0) = INVALID relieve(0, 200, 0, 1) = INVALID relieve(0, 2, 0, 1) = ILLEGAL relieve(0, 3, 0, 1) = FULL
                """);
        Script.run("promise 7: the number of turns, 1 for the first one", "program(\"rock 0 9 1;keeper 0;keeper 0;\") = 3 relieve(0, 5, 0, 1) = 1");
        Script.run("promise 7: relieve is an action", """
                program("rock 0 9 1;keeper 0;keeper 0;") = 3 relieve(0, 5, 0, 1) = 1 count(9) = 2 undo() = 1 count(3) = 0
                """);
        Script.run("promise 7: on the last day", """
                program("rock 0 9 1;keeper 0;keeper 0;pass 60;pass 60;pass 60;pass 19;") = 7 relieve(0, 198, 0, 1) = ILLEGAL
                relieve(0, 200, 0, 1) = INVALID relieve(0, 199, 0, 1) = 1 doneOn(0) = NONE
                """);
        Script.run("promise 7: it is planned though it cannot be done", """
                program("rock 0 9 1;keeper 0;keeper 0;") = 3 relieve(0, 0, 0, 1) = 1 relieve(0, 0, 1, 0) = 2 pass(1) = 0 count(6) = 2
                """);
    }

    private static void change() {
        Script.run("promise 8, rock: a rock, and there is none", "come(0) = 0 change(0, 0, 0, 1) = INVALID count(3) = 0");
        Script.run("promise 8, rock: a rock", """
                program("rock 0 9 1;rock 0 9 1;rock 0 9 1;keeper 0;") = 4 change(-1, 5, 0, 1) = INVALID change(3, 5, 0, 1) = INVALID
                change(MIN, 5, 0, 1) = INVALID change(MAX, 5, 0, 1) = INVALID change(0, 5, 0, 1) = 1 change(2, 5, 0, 1) = 2
                turn(0, 1) = 0 turn(1, 1) = 2
                """);
        Script.run("promise 8, day: 0 to 199", """
                program("rock 0 9 1;keeper 0;") = 2 change(0, -1, 0, 1) = INVALID change(0, 200, 0, 1) = INVALID
                change(0, MIN, 0, 1) = INVALID change(0, MAX, 0, 1) = INVALID change(0, 0, 0, 1) = 1 change(0, 199, 0, 1) = 2
                turn(0, 2) = 0 turn(1, 2) = 199
                """);
        Script.run("promise 8, keeper: a keeper", """
                addRock(0, 9, 1) = 0 change(0, 5, 0, 1) = INVALID come(0) = 0 come(0) = 1 change(0, 5, -1, 1) = INVALID
                change(0, 5, 2, 1) = INVALID change(0, 5, NONE, 1) = INVALID change(0, 5, MIN, 0) = INVALID change(0, 5, MAX, 0) = INVALID
                change(0, 5, 0, 1) = 1 change(0, 5, 1, 1) = 2 turn(0, 4) = 0 turn(1, 4) = 1
                """);
        Script.run("promise 8, out: 1 or 0", """
                program("rock 0 9 1;keeper 0;") = 2 change(0, 5, 0, -1) = INVALID change(0, 5, 0, 2) = INVALID change(0, 5, 0, MIN) = INVALID
                change(0, 5, 0, MAX) = INVALID change(0, 5, 0, 1) = 1 change(0, 5, 0, 0) = 2 turn(0, 3) = NONE turn(0, 4) = 0
                turn(1, 3) = 0 turn(1, 4) = NONE
                """);
    }

    private static void changeAndStates() {
        Script.run("promise 8: ILLEGAL_STATE if day is before today", """
                program("rock 0 9 1;keeper 0;pass 7;") = 3 change(0, 6, 0, 1) = ILLEGAL change(0, 0, 0, 0) = ILLEGAL
                change(0, 7, 0, 1) = 1 change(0, 8, 0, 0) = 2
                """);
        Script.run("promise 8: CAPACITY_EXCEEDED if there are 12 turns, and the number of turns", FULL_ROW + """
                change(0, 3, 0, 1) = 12 change(0, 3, 0, 1) = FULL change(0, 199, 1, 0) = FULL count(3) = 12
                """);
        Script.run("promise 8: INVALID_ARGUMENT comes first, then ILLEGAL_STATE, then CAPACITY_EXCEEDED", FULL_ROW + """
                change(0, 2, 0, 2) = INVALID change(1, 2, 0, 1) = INVALID change(0, 2, 2, 1) = INVALID change(0, 2, 0, 1) = ILLEGAL
                bring(0, 9, 0, 1) = 12 change(0, 2, 0, 2) = INVALID change(0, 3, 2, 1) = INVALID change(0, 200, 0, 1) = INVALID
                change(0, 2, 0, 1) = ILLEGAL change(0, 3, 0, 1) = FULL
                """);
        Script.run("promise 8: the number of turns, 1 for the first one", "program(\"rock 0 9 1;keeper 0;\") = 2 change(0, 5, 0, 1) = 1");
        Script.run("promise 8: change is an action", """
                program("rock 0 9 1;keeper 0;") = 2 change(0, 5, 0, 1) = 1 count(9) = 2 undo() = 1 count(3) = 0
                """);
        Script.run("promise 8: on the last day", """
                program("rock 0 9 1;keeper 0;pass 60;pass 60;pass 60;pass 19;") = 6 change(0, 198, 0, 1) = ILLEGAL
                change(0, 200, 0, 1) = INVALID change(0, 199, 0, 1) = 1 change(0, 199, 0, 0) = 2
                """);
    }

    private static void bring() {
        Script.run("promise 9, rock: a rock, and there is none", "bring(0, 0, 0, 1) = INVALID count(3) = 0");
        Script.run("promise 9, rock: a rock", """
                program("rock 0 9 1;rock 0 9 1;rock 0 9 1;") = 3 bring(-1, 5, 0, 1) = INVALID bring(3, 5, 0, 1) = INVALID
                bring(MIN, 5, 0, 1) = INVALID bring(MAX, 5, 0, 1) = INVALID bring(0, 5, 0, 1) = 1 bring(2, 5, 0, 1) = 2
                turn(0, 1) = 0 turn(1, 1) = 2
                """);
        Script.run("promise 9, day: 0 to 199", """
                addRock(0, 9, 1) = 0 bring(0, -1, 0, 1) = INVALID bring(0, 200, 0, 1) = INVALID bring(0, MIN, 0, 1) = INVALID
                bring(0, MAX, 0, 1) = INVALID bring(0, 0, 0, 1) = 1 bring(0, 199, 0, 1) = 2 turn(0, 2) = 0 turn(1, 2) = 199
                """);
        Script.run("promise 9, store: 0 to 2", """
                addRock(0, 9, 1) = 0 bring(0, 5, -1, 1) = INVALID bring(0, 5, 3, 1) = INVALID bring(0, 5, MIN, 1) = INVALID
                bring(0, 5, NONE, 1) = INVALID bring(0, 5, MAX, 1) = INVALID bring(0, 5, 0, 1) = 1 bring(0, 5, 2, 1) = 2
                turn(0, 5) = 0 turn(1, 5) = 2
                """);
        Script.run("promise 9, amount: 1 to 300", """
                addRock(0, 9, 1) = 0 bring(0, 5, 0, 0) = INVALID bring(0, 5, 0, 301) = INVALID bring(0, 5, 0, -1) = INVALID
                bring(0, 5, 0, MIN) = INVALID bring(0, 5, 0, MAX) = INVALID bring(0, 5, 0, 1) = 1 bring(0, 5, 0, 300) = 2
                turn(0, 6) = 1 turn(1, 6) = 300
                """);
    }

    private static void bringAndStates() {
        Script.run("promise 9: ILLEGAL_STATE if day is before today", """
                program("rock 0 9 1;pass 7;") = 2 bring(0, 6, 0, 1) = ILLEGAL bring(0, 0, 0, 1) = ILLEGAL bring(0, 7, 0, 1) = 1
                bring(0, 8, 0, 1) = 2
                """);
        Script.run("promise 9: CAPACITY_EXCEEDED if there are 12 turns, and the number of turns", FULL_ROW + """
                bring(0, 3, 0, 1) = 12 bring(0, 3, 0, 1) = FULL bring(0, 199, 2, 300) = FULL count(3) = 12
                """);
        Script.run("promise 9: INVALID_ARGUMENT comes first, then ILLEGAL_STATE, then CAPACITY_EXCEEDED", FULL_ROW + """
                bring(0, 2, 0, 0) = INVALID bring(1, 2, 0, 1) = INVALID bring(0, 2, 3, 1) = INVALID bring(0, 2, 0, 1) = ILLEGAL
                bring(0, 9, 0, 1) = 12 bring(0, 2, 0, 301) = INVALID bring(0, 3, 0, 0) = INVALID bring(0, 200, 0, 1) = INVALID
                bring(0, 2, 0, 1) = ILLEGAL bring(0, 3, 0, 1) = FULL
                """);
        Script.run("promise 9: the number of turns, 1 for the first one", "addRock(0, 9, 1) = 0 bring(0, 5, 0, 1) = 1");
        Script.run("promise 9: bring is an action", "addRock(0, 9, 1) = 0 bring(0, 5, 0, 1) = 1 count(9) = 2 undo() = 1 count(3) = 0");
        Script.run("promise 9: on the last day", """
                program("rock 0 9 1;pass 60;pass 60;pass 60;pass 19;") = 5 bring(0, 198, 0, 1) = ILLEGAL bring(0, 200, 0, 1) = INVALID
                bring(0, 199, 0, 1) = 1
                """);
    }

    private static void cancel() {
        Script.run("promise 10: an empty row", "cancel(0) = INVALID cancel(-1) = INVALID cancel(11) = INVALID count(9) = 0");
        Script.run("promise 10: a row of one", """
                addRock(0, 9, 1) = 0 bring(0, 5, 0, 1) = 1 cancel(-1) = INVALID cancel(1) = INVALID cancel(MIN) = INVALID cancel(MAX) = INVALID
                cancel(0) = 0 count(3) = 0 cancel(0) = INVALID
                """);
        Script.run("promise 10: a full row, the last one and the first one", FULL_ROW + """
                change(0, 8, 1, 1) = 12 cancel(12) = INVALID cancel(-1) = INVALID turn(11, 0) = 1 cancel(11) = 11 turn(10, 0) = 2
                cancel(11) = INVALID change(0, 8, 1, 1) = 12 cancel(0) = 11 turn(10, 0) = 1 turn(11, 0) = INVALID count(3) = 11
                """);
        Script.run("promise 10: turns that are left, none of which is done, dropped or missed", """
                program("rock 0 9 1;bring 0 0 0 1;bring 0 0 0 2;") = 3 cancel(0) = 1 count(5) = 0 count(6) = 0 count(7) = 0 pass(1) = 0
                store(0, 0, 0) = 2 count(5) = 1
                """);
        Script.run("promise 10: cancel is an action", "addRock(0, 9, 1) = 0 bring(0, 5, 0, 1) = 1 cancel(0) = 0 count(9) = 3 undo() = 2 count(3) = 1");
        Script.run("promise 10: on the last day", """
                program("rock 0 9 1;bring 0 199 0 1;pass 60;pass 60;pass 60;pass 19;") = 6 cancel(1) = INVALID cancel(0) = 0 cancel(0) = INVALID
                """);
    }

    private static void exchange() {
        Script.run("promise 11: an empty row", "exchange(0, 1) = INVALID exchange(0, 0) = INVALID count(9) = 0");
        Script.run("promise 11, one: a turn", """
                program("rock 0 9 1;keeper 0;keeper 0;keeper 0;keeper 0;relief 0 5 0 1;relief 0 5 2 3;") = 7 exchange(-1, 0) = INVALID
                exchange(2, 0) = INVALID exchange(MIN, 0) = INVALID exchange(MAX, 0) = INVALID exchange(1, 0) = 1 turn(1, 4) = 1
                """);
        Script.run("promise 11, other: another turn", """
                program("rock 0 9 1;keeper 0;keeper 0;keeper 0;keeper 0;relief 0 5 0 1;relief 0 5 2 3;") = 7 exchange(0, -1) = INVALID
                exchange(0, 2) = INVALID exchange(0, MIN) = INVALID exchange(0, MAX) = INVALID exchange(0, 1) = 3 turn(0, 4) = 3
                """);
        Script.run("promise 11: INVALID_ARGUMENT if both are the same", """
                program("rock 0 9 1;keeper 0;keeper 0;relief 0 5 0 1;relief 0 5 0 1;") = 5 exchange(0, 0) = INVALID exchange(1, 1) = INVALID
                exchange(2, 2) = INVALID exchange(0, 1) = 1
                """);
        Script.run("promise 11: the first and the last turn of a full row", """
                program("rock 0 9 1;keeper 0;keeper 0;keeper 0;keeper 0;relief 0 5 0 1;bring 0 9 0 1;bring 0 9 0 1;bring 0 9 0 1;") = 9
                program("bring 0 9 0 1;bring 0 9 0 1;bring 0 9 0 1;bring 0 9 0 1;bring 0 9 0 1;bring 0 9 0 1;") = 6
                bring(0, 9, 0, 1) = 11 relieve(0, 5, 2, 3) = 12 exchange(0, 12) = INVALID exchange(12, 0) = INVALID exchange(0, 11) = 3
                turn(0, 4) = 3 turn(11, 4) = 1 exchange(0, 10) = ILLEGAL exchange(10, 11) = ILLEGAL
                """);
    }

    private static void exchangeAndStates() {
        Script.run("promise 11: ILLEGAL_STATE if the first one is no relief", """
                program("rock 0 9 1;keeper 0;keeper 0;keeper 0;out 0 5 2;bring 0 5 0 1;relief 0 5 0 1;ashore 0 5 2;") = 8
                exchange(0, 2) = ILLEGAL exchange(1, 2) = ILLEGAL exchange(3, 2) = ILLEGAL
                """);
        Script.run("promise 11: ILLEGAL_STATE if the other one is no relief", """
                program("rock 0 9 1;keeper 0;keeper 0;keeper 0;out 0 5 2;bring 0 5 0 1;relief 0 5 0 1;ashore 0 5 2;") = 8
                exchange(2, 0) = ILLEGAL exchange(2, 1) = ILLEGAL exchange(2, 3) = ILLEGAL
                """);
        Script.run("promise 11: ILLEGAL_STATE if both are no reliefs", """
                program("rock 0 9 1;keeper 0;keeper 0;out 0 5 0;out 0 5 1;bring 0 5 0 1;bring 0 5 0 1;") = 7
                exchange(0, 1) = ILLEGAL exchange(2, 3) = ILLEGAL exchange(0, 2) = ILLEGAL
                """);
        Script.run("promise 11: ILLEGAL_STATE if a keeper would come ashore and go out by the first one", """
                program("rock 0 9 1;keeper 0;keeper 0;keeper 0;relief 0 5 0 1;relief 0 5 2 0;") = 6 exchange(0, 1) = ILLEGAL
                """);
        Script.run("promise 11: ILLEGAL_STATE if a keeper would come ashore and go out by the other one", """
                program("rock 0 9 1;keeper 0;keeper 0;keeper 0;relief 0 5 0 1;relief 0 5 1 2;") = 6 exchange(0, 1) = ILLEGAL
                """);
        Script.run("promise 11: ILLEGAL_STATE if a keeper would come ashore and go out by either", """
                program("rock 0 9 1;keeper 0;keeper 0;relief 0 5 0 1;relief 0 5 1 0;") = 5 exchange(0, 1) = ILLEGAL exchange(1, 0) = ILLEGAL
                """);
        Script.run("promise 11: the same keeper may come ashore by both, or go out by both", """
                program("rock 0 9 1;keeper 0;keeper 0;keeper 0;relief 0 5 0 1;relief 0 5 0 2;relief 0 5 2 1;") = 7 exchange(0, 1) = 2
                turn(0, 4) = 2 turn(1, 4) = 1 exchange(1, 2) = 1 turn(1, 4) = 1 turn(2, 4) = 1 count(9) = 3
                """);
        Script.run("promise 11: of other rocks and other days, and only those who go out", """
                program("rock 0 9 1;rock 0 9 1;keeper 0;keeper 0;keeper 0;keeper 0;relief 0 5 0 1;relief 1 199 2 3;") = 8
                exchange(0, 1) = 3 turn(0, 1) = 0 turn(0, 2) = 5 turn(0, 3) = 0 turn(0, 4) = 3 turn(1, 1) = 1 turn(1, 2) = 199
                turn(1, 3) = 2 turn(1, 4) = 1
                """);
        Script.run("promise 11: INVALID_ARGUMENT comes before ILLEGAL_STATE", """
                program("rock 0 9 1;bring 0 5 0 1;bring 0 5 0 1;") = 3 exchange(0, 0) = INVALID exchange(0, 2) = INVALID
                exchange(2, 0) = INVALID exchange(-1, 1) = INVALID exchange(0, 1) = ILLEGAL
                """);
        Script.run("promise 11: exchange is an action, also if nothing changes by it", """
                program("rock 0 9 1;keeper 0;keeper 0;keeper 0;relief 0 5 0 1;relief 0 5 2 1;") = 6 exchange(0, 1) = 1 count(9) = 2
                undo() = 1
                """);
    }

    private static void pass() {
        Script.run("promise 12, days: 1 to 60", """
                pass(0) = INVALID pass(61) = INVALID pass(-1) = INVALID pass(MIN) = INVALID pass(MAX) = INVALID count(0) = 0
                pass(1) = 0 count(0) = 1 pass(60) = 0 count(0) = 61 count(9) = 2
                """);
        Script.run("promise 12: ILLEGAL_STATE if today would be later than day 199", """
                pass(60) = 0 pass(60) = 0 pass(20) = 0 pass(60) = ILLEGAL count(0) = 140 pass(59) = 0 count(0) = 199 pass(1) = ILLEGAL
                pass(60) = ILLEGAL
                """);
        Script.run("promise 12: 60 days up to day 199", "pass(60) = 0 pass(60) = 0 pass(19) = 0 pass(60) = 0 count(0) = 199");
        Script.run("promise 12: INVALID_ARGUMENT comes before ILLEGAL_STATE", """
                pass(60) = 0 pass(60) = 0 pass(60) = 0 pass(19) = 0 pass(61) = INVALID pass(0) = INVALID pass(-1) = INVALID pass(MAX) = INVALID
                pass(1) = ILLEGAL
                """);
        Script.run("promise 12: pass is an action, the first call too", "pass(1) = 0 count(9) = 1 undo() = 0 count(0) = 0");
    }

    private static void passAndStates() {
        Script.run("promise 12: no turns are missed", "program(\"rock 0 9 1;bring 0 0 0 1;bring 0 1 0 1;\") = 3 pass(2) = 0 count(7) = 0 count(5) = 2");
        Script.run("promise 12: the number of turns that are missed, each on each day", """
                program("rock 0 3 1;swell 1 4;swell 2 4;swell 3 4;bring 0 1 0 1;bring 0 2 0 1;bring 0 3 0 1;bring 0 4 0 1;") = 8
                pass(60) = 6 count(7) = 6 count(5) = 4 rock(0, 5) = 3
                """);
        Script.run("promise 12: in these days, not in those before", """
                program("rock 99 9 1;bring 0 0 0 1;bring 0 3 0 1;") = 3 pass(2) = 2 pass(1) = 1 pass(1) = 2 pass(1) = 2 count(7) = 7
                """);
        Script.run("promise 12: the greatest number of turns that are missed", """
                program("rock 99 9 1;bring 0 0 0 1;bring 0 0 0 1;bring 0 0 0 1;bring 0 0 0 1;bring 0 0 0 1;bring 0 0 0 1;") = 7
                program("bring 0 0 0 1;bring 0 0 0 1;bring 0 0 0 1;bring 0 0 0 1;bring 0 0 0 1;bring 0 0 0 1;") = 6
                pass(60) = 720 pass(60) = 720 pass(60) = 720 pass(19) = 228 count(7) = 2388 rock(0, 5) = 199 count(3) = 12 turn(11, 2) = 199
                """);
        Script.run("promise 12: days that pass at once are as those that pass one by one", """
                program("rock 0 3 2;keeper 1;keeper 2;out 0 0 0;out 0 1 1;swell 2 9;swell 3 9;bring 0 2 0 5;ashore 0 4 1;pass 6;") = 10
                keeper(0, 2) = 16 keeper(1, 2) = 7 keeper(1, 5) = 2 keeper(1, 6) = 1 keeper(0, 4) = 2 store(0, 0, 3) = 22
                undo() = 0 program("rock 0 3 2;keeper 1;keeper 2;out 0 0 0;out 0 1 1;swell 2 9;swell 3 9;bring 0 2 0 5;ashore 0 4 1;") = 9
                pass(1) = 0 pass(1) = 0 pass(1) = 1 pass(1) = 1 pass(1) = 0 pass(1) = 0
                keeper(0, 2) = 16 keeper(1, 2) = 7 keeper(1, 5) = 2 keeper(1, 6) = 1 keeper(0, 4) = 2 store(0, 0, 3) = 22
                """);
    }
}
