/** The boundary cases of promises 19 to 24, a run for each sentence. */
public final class LookBoundsTest {
    private static final String ROCKS = """
            program("rock 40 4 2;rock 0 9 1;rock 99 0 3;keeper 2;keeper 1;keeper 0;out 1 0 2;out 0 0 1;out 0 0 0;bring 1 9 2 7;pass 1;") = 11
            """;

    private LookBoundsTest() {
    }

    public static void main(String[] arguments) {
        count();
        counts();
        rock();
        rockParts();
        store();
        storeParts();
        keeper();
        turn();
        turnParts();
        sea();
        Script.finish();
    }

    private static void count() {
        Script.run("promise 19, what: 0 to 10", """
                count(-1) = INVALID count(11) = INVALID count(MIN) = INVALID count(MAX) = INVALID count(NONE) = INVALID count(0) = 0
                append(32) = 1 count(10) = 1
                """);
        Script.run("promise 19: all numbers of a new object are 0", """
                count(0) = 0 count(1) = 0 count(2) = 0 count(3) = 0 count(4) = 0 count(5) = 0 count(6) = 0 count(7) = 0 count(8) = 0
                count(9) = 0 count(10) = 0
                """);
        Script.run("promise 19: each number is another one", """
                program("rock 0 3 3;rock 99 9 1;keeper 0;keeper 0;keeper 0;keeper 0;keeper 0;out 0 0 0;out 0 0 1;ashore 0 0 4;pass 1;") = 11
                program("bring 0 1 0 1;bring 0 1 0 1;bring 1 1 0 1;bring 1 1 0 1;bring 1 1 0 1;bring 1 1 0 1;pass 3;") = 7
                take(0) = 4 append(32) = 1 append(32) = 2
                count(0) = 4 count(1) = 2 count(2) = 5 count(3) = 4 count(4) = 3 count(5) = 4 count(6) = 1 count(7) = 12 count(8) = 1
                count(9) = 3 count(10) = 2
                """);
    }

    private static void counts() {
        Script.run("promise 19: today, the last day", "pass(60) = 0 pass(60) = 0 pass(60) = 0 pass(19) = 0 count(0) = 199");
        Script.run("promise 19: the number of rocks, all of them", "program(\"rock 0 9 1;rock 0 9 1;rock 0 9 1;\") = 3 count(1) = 3");
        Script.run("promise 19: the numbers of keepers and of those who are ashore, all of them", """
                program("keeper 0;keeper 0;keeper 0;keeper 0;keeper 0;keeper 0;keeper 0;keeper 0;") = 8 count(2) = 8 count(4) = 8
                """);
        Script.run("promise 19: the number of keepers who are ashore, none of them", """
                program("rock 0 9 2;rock 0 9 1;keeper 0;keeper 0;keeper 0;out 0 0 0;out 0 0 1;out 1 0 2;pass 1;") = 9 count(4) = 0 count(2) = 3
                """);
        Script.run("promise 19: the number of turns, a full row", """
                program("rock 0 9 1;bring 0 0 0 1;bring 0 0 0 1;bring 0 0 0 1;bring 0 0 0 1;bring 0 0 0 1;bring 0 0 0 1;") = 7 count(3) = 6
                program("bring 0 0 0 1;bring 0 0 0 1;bring 0 0 0 1;bring 0 0 0 1;bring 0 0 0 1;bring 0 0 0 1;") = 6 count(3) = 12
                pass(1) = 0 count(3) = 0 count(5) = 12
                """);
        Script.run("promise 19: the numbers of turns that were done, dropped and missed so far", """
                program("rock 0 3 1;keeper 0;keeper 0;out 0 0 0;out 0 0 1;swell 1 9;ashore 0 1 0;ashore 0 1 1;") = 8 pass(1) = 0
                count(5) = 1 count(6) = 1 count(7) = 0 pass(1) = 2 count(5) = 1 count(6) = 1 count(7) = 2 pass(1) = 0 count(5) = 2
                count(6) = 2 count(7) = 2
                """);
        Script.run("promise 19: the number of snapshots, 0 to 2", "count(8) = 0 take(1) = 0 count(8) = 1 take(1) = 0 count(8) = 1 take(0) = 0 count(8) = 2");
        Script.run("promise 19: the number of states in the history, 0 to 5", """
                count(9) = 0 take(1) = 0 count(9) = 1 take(1) = 0 take(1) = 0 take(1) = 0 take(1) = 0 count(9) = 5 take(1) = 0 count(9) = 5
                """);
        Script.run("promise 19: the length of the text, 0 to 140", """
                count(10) = 0 append(1) = 1 count(10) = 1 type("%s") = 140 count(10) = 140 append(1) = FULL count(10) = 140
                """.formatted("z".repeat(139)));
    }

    private static void rock() {
        Script.run("promise 20, rock: a rock, and there is none", "rock(0, 0) = INVALID rock(0, 6) = INVALID rock(-1, 0) = INVALID rock(0, 7) = INVALID");
        Script.run("promise 20, rock: a rock, and there are one and three", """
                addRock(1, 2, 3) = 0 rock(0, 2) = 3 rock(1, 2) = INVALID rock(-1, 2) = INVALID addRock(4, 5, 2) = 1 addRock(7, 8, 1) = 2
                rock(0, 2) = 3 rock(2, 2) = 1 rock(3, 2) = INVALID rock(NONE, 2) = INVALID rock(MIN, 2) = INVALID rock(MAX, 2) = INVALID
                """);
        Script.run("promise 20, what: 0 to 6", """
                addRock(1, 2, 3) = 0 rock(0, -1) = INVALID rock(0, 7) = INVALID rock(0, MIN) = INVALID rock(0, MAX) = INVALID rock(0, 0) = 1
                rock(0, 6) = NONE
                """);
        Script.run("promise 20: its least height, greatest swell and posts, the smallest and the greatest", """
                addRock(0, 0, 1) = 0 addRock(99, 9, 3) = 1 rock(0, 0) = 0 rock(0, 1) = 0 rock(0, 2) = 1 rock(1, 0) = 99 rock(1, 1) = 9
                rock(1, 2) = 3
                """);
    }

    private static void rockParts() {
        Script.run("promise 20: the number of keepers on it, 0 to 3", """
                program("rock 0 9 3;rock 0 9 1;keeper 0;keeper 0;keeper 0;keeper 0;out 0 0 0;out 0 0 1;out 0 0 2;out 1 0 3;") = 10
                rock(0, 3) = 0 pass(1) = 0 rock(0, 3) = 3 rock(1, 3) = 1
                """);
        Script.run("promise 20: the number of turns for it, 0 to 12, on all days and of all kinds", """
                program("rock 0 9 3;rock 0 9 1;keeper 0;keeper 0;relief 1 0 0 1;out 1 5 0;ashore 1 9 0;bring 1 199 0 1;bring 0 0 0 1;") = 9
                rock(0, 4) = 1 rock(1, 4) = 4 program("out 1 5 0;out 1 5 0;out 1 5 0;out 1 5 0;out 1 5 0;out 1 5 0;out 1 5 0;") = 7
                rock(1, 4) = 11 cancel(4) = 11 rock(0, 4) = 0 bring(1, 0, 0, 1) = 12 rock(1, 4) = 12
                """);
        Script.run("promise 20: the days that were doubled on it so far", """
                program("rock 0 3 3;rock 99 9 1;swell 1 9;bring 0 1 0 1;bring 1 0 0 1;") = 5 rock(0, 5) = 0 pass(1) = 1 rock(0, 5) = 0
                rock(1, 5) = 1 pass(1) = 2 rock(0, 5) = 1 rock(1, 5) = 2 pass(1) = 1 rock(0, 5) = 1 rock(1, 5) = 3
                """);
        Script.run("promise 20: the keeper with the smallest number on it, NONE without keepers", ROCKS + """
                rock(0, 6) = 0 rock(1, 6) = 2 rock(2, 6) = NONE change(0, 1, 0, 0) = 2 pass(1) = 0 rock(0, 6) = 1 change(0, 2, 1, 0) = 2
                pass(1) = 0 rock(0, 6) = NONE rock(1, 6) = 2
                """);
        Script.run("promise 20: the keeper with the greatest number alone on a rock", """
                program("rock 0 9 1;keeper 0;keeper 0;keeper 0;keeper 0;keeper 0;keeper 0;keeper 0;keeper 0;out 0 0 7;pass 1;") = 11
                rock(0, 6) = 7
                """);
    }

    private static void store() {
        Script.run("promise 21, rock: a rock, and there is none", "store(0, 0, 0) = INVALID store(-1, 0, 0) = INVALID store(0, 0, 5) = INVALID");
        Script.run("promise 21, rock: a rock, and there are one and three", """
                addRock(0, 9, 1) = 0 store(-1, 0, 0) = INVALID store(1, 0, 0) = INVALID addRock(0, 9, 1) = 1 addRock(0, 9, 1) = 2
                bring(2, 0, 0, 9) = 1 pass(1) = 0 store(2, 0, 0) = 9 store(0, 0, 0) = 0 store(3, 0, 0) = INVALID store(MIN, 0, 0) = INVALID
                store(MAX, 0, 0) = INVALID
                """);
        Script.run("promise 21, store: 0 to 2", """
                program("rock 0 9 1;bring 0 0 0 7;bring 0 0 1 8;bring 0 0 2 9;pass 1;") = 5 store(0, -1, 0) = INVALID store(0, 3, 0) = INVALID
                store(0, MIN, 0) = INVALID store(0, MAX, 0) = INVALID store(0, 0, 0) = 7 store(0, 1, 0) = 8 store(0, 2, 0) = 9
                """);
        Script.run("promise 21, what: 0 to 5", """
                addRock(0, 9, 1) = 0 store(0, 0, -1) = INVALID store(0, 0, 6) = INVALID store(0, 0, MIN) = INVALID store(0, 0, MAX) = INVALID
                store(0, 0, 0) = 0 store(0, 0, 5) = 0
                """);
    }

    private static void storeParts() {
        Script.run("promise 21: each part is another one", """
                program("rock 0 9 1;keeper 0;bring 0 0 0 20;out 0 1 0;bring 0 2 0 4;pass 1;") = 6 setKeep(0, 0, 12) = 0 pass(4) = 0
                store(0, 0, 0) = 12 store(0, 0, 1) = 12 store(0, 0, 2) = 12 store(0, 0, 3) = 0 store(0, 0, 4) = 24 store(0, 0, 5) = 3
                pass(1) = 0 store(0, 0, 0) = 12 store(0, 0, 2) = 12 store(0, 0, 3) = 3 store(0, 0, 4) = 24
                """);
        Script.run("promise 21: the amount and what has been delivered, without what was left behind, of a full store", """
                program("rock 0 9 1;bring 0 0 1 300;bring 0 0 1 300;bring 0 0 1 300;bring 0 0 1 300;pass 1;") = 6 store(0, 1, 0) = 999
                store(0, 1, 4) = 999 bring(0, 1, 1, 300) = 1 pass(1) = 0 store(0, 1, 4) = 999 store(0, 1, 0) = 999
                """);
        Script.run("promise 21: what has been delivered may be more than 999", """
                program("rock 0 9 3;keeper 0;keeper 0;keeper 0;out 0 0 0;out 0 0 1;out 0 0 2;pass 1;") = 8
                program("bring 0 1 0 300;bring 0 1 0 300;bring 0 1 0 300;bring 0 60 0 300;bring 0 60 0 300;pass 60;") = 6
                store(0, 0, 4) = 1500 store(0, 0, 2) = 540 store(0, 0, 0) = 960 store(0, 0, 3) = 9
                """);
        Script.run("promise 21: what today needs, by the keepers who are on the rock, not by its turns", """
                program("rock 0 9 2;keeper 0;keeper 0;out 0 0 0;out 0 1 1;ashore 0 1 0;") = 6 store(0, 0, 5) = 0 store(0, 1, 5) = 0
                store(0, 2, 5) = 0 pass(1) = 0 store(0, 0, 5) = 3 store(0, 1, 5) = 5 store(0, 2, 5) = 2
                """);
        Script.run("promise 21: what has been lacking, the greatest number", """
                program("rock 0 9 3;keeper 0;keeper 0;keeper 0;out 0 0 0;out 0 0 1;out 0 0 2;pass 60;pass 60;pass 60;pass 19;") = 11
                store(0, 0, 3) = 1791 store(0, 1, 3) = 995 store(0, 2, 3) = 1194
                """);
    }

    private static void keeper() {
        Script.run("promise 22, keeper: a keeper, and there is none", "keeper(0, 0) = INVALID keeper(-1, 0) = INVALID keeper(0, 1) = INVALID keeper(0, 7) = INVALID");
        Script.run("promise 22, keeper: a keeper, and there are one and eight", """
                come(2) = 0 keeper(0, 0) = 2 keeper(1, 0) = INVALID keeper(-1, 0) = INVALID keeper(NONE, 0) = INVALID
                program("keeper 0;keeper 0;keeper 0;keeper 0;keeper 0;keeper 0;keeper 1;") = 7 keeper(7, 0) = 1 keeper(8, 0) = INVALID
                keeper(MIN, 0) = INVALID keeper(MAX, 0) = INVALID
                """);
        Script.run("promise 22, what: 0 to 6", """
                come(2) = 0 keeper(0, -1) = INVALID keeper(0, 7) = INVALID keeper(0, MIN) = INVALID keeper(0, MAX) = INVALID keeper(0, 0) = 2
                keeper(0, 6) = 0
                """);
        Script.run("promise 22: the rock, NONE if the keeper is ashore", """
                program("rock 0 9 1;rock 0 9 1;rock 0 9 1;keeper 0;keeper 0;out 2 0 0;out 0 0 1;ashore 2 1 0;") = 8 keeper(0, 1) = NONE
                pass(1) = 0 keeper(0, 1) = 2 keeper(1, 1) = 0 pass(1) = 0 keeper(0, 1) = NONE keeper(1, 1) = 0
                """);
        Script.run("promise 22: each account is another one", """
                program("rock 0 3 1;keeper 2;out 0 1 0;swell 3 9;bring 0 3 0 1;ashore 0 5 0;pass 8;") = 7
                keeper(0, 0) = 2 keeper(0, 1) = NONE keeper(0, 2) = 3 keeper(0, 3) = 4 keeper(0, 4) = 1 keeper(0, 5) = 3 keeper(0, 6) = 1
                """);
    }

    private static void turn() {
        Script.run("promise 23, turn: its number, in an empty row", "turn(0, 0) = INVALID turn(-1, 0) = INVALID turn(0, 7) = INVALID");
        Script.run("promise 23, turn: its number, in a row of one and in a full one", """
                program("rock 0 9 1;bring 0 9 0 1;") = 2 turn(0, 6) = 1 turn(1, 6) = INVALID turn(-1, 6) = INVALID
                program("bring 0 9 0 2;bring 0 9 0 3;bring 0 9 0 4;bring 0 9 0 5;bring 0 9 0 6;bring 0 9 0 7;bring 0 9 0 8;") = 7
                program("bring 0 9 0 9;bring 0 9 0 10;bring 0 9 0 11;bring 0 9 0 12;") = 4 turn(11, 6) = 12 turn(0, 6) = 1
                turn(12, 6) = INVALID turn(MIN, 6) = INVALID turn(MAX, 6) = INVALID
                """);
        Script.run("promise 23, what: 0 to 6", """
                program("rock 0 9 1;bring 0 9 2 300;") = 2 turn(0, -1) = INVALID turn(0, 7) = INVALID turn(0, MIN) = INVALID turn(0, MAX) = INVALID
                turn(0, 0) = 2 turn(0, 6) = 300
                """);
    }

    private static void turnParts() {
        Script.run("promise 23: a relief has a keeper who comes ashore and one who goes out, and delivers nothing", """
                program("rock 0 9 1;rock 0 9 1;keeper 0;keeper 0;keeper 0;relief 1 9 2 0;") = 6 turn(0, 0) = 0 turn(0, 1) = 1 turn(0, 2) = 9
                turn(0, 3) = 2 turn(0, 4) = 0 turn(0, 5) = NONE turn(0, 6) = NONE
                """);
        Script.run("promise 23: a change by which a keeper goes out has none who comes ashore", """
                program("rock 0 9 1;keeper 0;out 0 199 0;") = 3 turn(0, 0) = 1 turn(0, 1) = 0 turn(0, 2) = 199 turn(0, 3) = NONE turn(0, 4) = 0
                turn(0, 5) = NONE turn(0, 6) = NONE
                """);
        Script.run("promise 23: a change by which a keeper comes ashore has none who goes out", """
                program("rock 0 9 1;keeper 0;ashore 0 0 0;") = 3 turn(0, 0) = 1 turn(0, 1) = 0 turn(0, 2) = 0 turn(0, 3) = 0 turn(0, 4) = NONE
                turn(0, 5) = NONE turn(0, 6) = NONE
                """);
        Script.run("promise 23: a delivery has no keepers", """
                program("rock 0 9 1;bring 0 0 0 1;") = 2 turn(0, 0) = 2 turn(0, 1) = 0 turn(0, 2) = 0 turn(0, 3) = NONE turn(0, 4) = NONE
                turn(0, 5) = 0 turn(0, 6) = 1
                """);
        Script.run("promise 23: its day, when it is missed", """
                program("rock 99 9 1;bring 0 3 0 1;") = 2 turn(0, 2) = 3 pass(3) = 0 turn(0, 2) = 3 pass(1) = 1 turn(0, 2) = 4 pass(1) = 1
                turn(0, 2) = 5
                """);
        Script.run("promise 23: a turn in the place of a removed one of another kind has nothing of it", """
                program("rock 0 9 1;keeper 0;keeper 0;bring 0 0 2 9;relief 0 0 0 1;") = 5 cancel(0) = 1 cancel(0) = 0 change(0, 5, 1, 1) = 1
                turn(0, 3) = NONE turn(0, 4) = 1 turn(0, 5) = NONE turn(0, 6) = NONE relieve(0, 5, 1, 0) = 2 turn(1, 5) = NONE turn(1, 6) = NONE
                cancel(0) = 1 cancel(0) = 0 bring(0, 5, 1, 2) = 1 turn(0, 3) = NONE turn(0, 4) = NONE
                """);
    }

    private static void sea() {
        Script.run("promise 24, day: 0 to 199", """
                sea(-1, 0) = INVALID sea(200, 0) = INVALID sea(-1, 1) = INVALID sea(200, 1) = INVALID sea(MIN, 0) = INVALID sea(MAX, 1) = INVALID
                setTide(0, 1) = 50 setTide(3, 2) = 50 setSwell(0, 1) = 3 setSwell(199, 2) = 3 sea(0, 0) = 1 sea(199, 0) = 2 sea(0, 1) = 1
                sea(199, 1) = 2
                """);
        Script.run("promise 24, what: 0 or 1", """
                sea(0, -1) = INVALID sea(0, 2) = INVALID sea(0, MIN) = INVALID sea(0, MAX) = INVALID sea(0, 0) = 50 sea(0, 1) = 3
                """);
        Script.run("promise 24: days that have passed", """
                setSwell(0, 7) = 3 pass(60) = 0 pass(60) = 0 pass(60) = 0 pass(19) = 0 sea(0, 1) = 7 sea(0, 0) = 50 sea(198, 1) = 3
                """);
    }
}
