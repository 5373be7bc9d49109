/** The boundary cases of promises 1 to 6, a run for each sentence. */
public final class RockActionBoundsTest {
    private RockActionBoundsTest() {
    }

    public static void main(String[] arguments) {
        newObject();
        setTide();
        setSwell();
        addRock();
        setKeep();
        setKeepAndAmounts();
        come();
        Script.finish();
    }

    private static void newObject() {
        Script.run("promise 1: without rocks", "count(1) = 0 rock(0, 0) = INVALID store(0, 0, 0) = INVALID landing(0, 0) = INVALID addRock(0, 0, 1) = 0");
        Script.run("promise 1: without keepers", "count(2) = 0 count(4) = 0 keeper(0, 0) = INVALID nextOut() = NONE nextIn() = NONE come(0) = 0");
        Script.run("promise 1: without turns", "count(3) = 0 turn(0, 0) = INVALID doneOn(0) = INVALID cancel(0) = INVALID");
        Script.run("promise 1: with an empty text", "count(10) = 0 clearText() = 0 run() = 0");
        Script.run("promise 1: with empty slots and an empty history", """
                count(8) = 0 count(9) = 0 restore(0) = ILLEGAL restore(1) = ILLEGAL undo() = ILLEGAL
                """);
        Script.run("promise 1: today is day 0, and no turn was done, dropped or missed", "count(0) = 0 count(5) = 0 count(6) = 0 count(7) = 0");
        RockWatches one = new RockWatches();
        RockWatches other = new RockWatches();
        one.addRock(0, 9, 1);
        one.setTide(0, 7);
        one.setSwell(0, 7);
        one.come(2);
        one.append(' ');
        one.take(0);
        Script.check("promise 1: each object is a rota of its own", other.count(1) == 0 && other.count(2) == 0 && other.sea(0, 0) == 50
                && other.sea(0, 1) == 3 && other.count(10) == 0 && other.count(8) == 0 && other.count(9) == 0
                && new RockWatches().count(9) == 0 && one.count(9) == 5);
    }

    private static void setTide() {
        Script.run("promise 2, number: 0 to 13", """
                setTide(-1, 60) = INVALID setTide(14, 60) = INVALID setTide(MIN, 60) = INVALID setTide(MAX, 60) = INVALID
                setTide(0, 60) = 50 setTide(13, 61) = 50 sea(0, 0) = 60 sea(13, 0) = 61 count(9) = 2
                """);
        Script.run("promise 2, height: 0 to 99", """
                setTide(5, -1) = INVALID setTide(5, 100) = INVALID setTide(5, MIN) = INVALID setTide(5, MAX) = INVALID
                setTide(5, 0) = 50 sea(5, 0) = 0 setTide(5, 99) = 0 sea(5, 0) = 99 count(9) = 2
                """);
        Script.run("promise 2: both arguments are out of range", "setTide(14, 100) = INVALID setTide(-1, -1) = INVALID count(9) = 0");
        Script.run("promise 2: the previous height, the smallest and the greatest", """
                setTide(0, 0) = 50 setTide(0, 99) = 0 setTide(0, 99) = 99 setTide(0, 50) = 99 setTide(1, 50) = 50
                """);
        Script.run("promise 2: setTide is an action, the first call too", "setTide(0, 50) = 50 count(9) = 1 undo() = 0");
        Script.run("promise 2: a tide of days that have passed, on the last day", """
                pass(60) = 0 pass(60) = 0 pass(60) = 0 pass(19) = 0 setTide(2, 7) = 50 setTide(3, 8) = 50 sea(2, 0) = 7 sea(199, 0) = 8
                setTide(14, 0) = INVALID
                """);
    }

    private static void setSwell() {
        Script.run("promise 3, day: 0 to 199", """
                setSwell(-1, 5) = INVALID setSwell(200, 5) = INVALID setSwell(MIN, 5) = INVALID setSwell(MAX, 5) = INVALID
                setSwell(0, 5) = 3 setSwell(199, 6) = 3 sea(0, 1) = 5 sea(199, 1) = 6 count(9) = 2
                """);
        Script.run("promise 3, swell: 0 to 9", """
                setSwell(5, -1) = INVALID setSwell(5, 10) = INVALID setSwell(5, MIN) = INVALID setSwell(5, MAX) = INVALID
                setSwell(5, 0) = 3 sea(5, 1) = 0 setSwell(5, 9) = 0 sea(5, 1) = 9 count(9) = 2
                """);
        Script.run("promise 3: the previous swell, the smallest and the greatest", """
                setSwell(0, 0) = 3 setSwell(0, 9) = 0 setSwell(0, 9) = 9 setSwell(0, 3) = 9 setSwell(1, 3) = 3
                """);
        Script.run("promise 3: ILLEGAL_STATE if day is before today", """
                setSwell(0, 4) = 3 pass(1) = 0 setSwell(0, 5) = ILLEGAL setSwell(1, 5) = 3 pass(60) = 0 setSwell(60, 5) = ILLEGAL
                setSwell(61, 5) = 3 setSwell(62, 5) = 3 setSwell(0, 5) = ILLEGAL sea(0, 1) = 4 sea(60, 1) = 3
                """);
        Script.run("promise 3: INVALID_ARGUMENT comes before ILLEGAL_STATE", """
                pass(9) = 0 setSwell(8, 10) = INVALID setSwell(8, -1) = INVALID setSwell(-1, 3) = INVALID setSwell(8, 9) = ILLEGAL
                """);
        Script.run("promise 3: on the last day", """
                pass(60) = 0 pass(60) = 0 pass(60) = 0 pass(19) = 0 setSwell(198, 5) = ILLEGAL setSwell(199, 5) = 3 setSwell(200, 5) = INVALID
                sea(199, 1) = 5
                """);
        Script.run("promise 3: setSwell is an action, the first call too", "setSwell(0, 3) = 3 count(9) = 1 undo() = 0");
    }

    private static void addRock() {
        Script.run("promise 4, height: 0 to 99", """
                addRock(-1, 5, 2) = INVALID addRock(100, 5, 2) = INVALID addRock(MIN, 5, 2) = INVALID addRock(MAX, 5, 2) = INVALID
                addRock(0, 5, 2) = 0 addRock(99, 5, 2) = 1 rock(0, 0) = 0 rock(1, 0) = 99 count(9) = 2
                """);
        Script.run("promise 4, swell: 0 to 9", """
                addRock(5, -1, 2) = INVALID addRock(5, 10, 2) = INVALID addRock(5, MIN, 2) = INVALID addRock(5, MAX, 2) = INVALID
                addRock(5, 0, 2) = 0 addRock(5, 9, 2) = 1 rock(0, 1) = 0 rock(1, 1) = 9 count(9) = 2
                """);
        Script.run("promise 4, posts: 1 to 3", """
                addRock(5, 5, 0) = INVALID addRock(5, 5, 4) = INVALID addRock(5, 5, -1) = INVALID addRock(5, 5, MIN) = INVALID
                addRock(5, 5, MAX) = INVALID addRock(5, 5, 1) = 0 addRock(5, 5, 3) = 1 rock(0, 2) = 1 rock(1, 2) = 3 count(9) = 2
                """);
        Script.run("promise 4: returns its number, 0 for the first and 2 for the last one", "addRock(1, 1, 1) = 0 addRock(1, 1, 1) = 1 addRock(1, 1, 1) = 2");
        Script.run("promise 4: CAPACITY_EXCEEDED if there are 3", """
                addRock(1, 1, 1) = 0 addRock(1, 1, 1) = 1 addRock(1, 1, 1) = 2 addRock(1, 1, 1) = FULL addRock(0, 0, 1) = FULL
                addRock(99, 9, 3) = FULL count(1) = 3 count(9) = 3
                """);
        Script.run("promise 4: INVALID_ARGUMENT comes before CAPACITY_EXCEEDED", """
                addRock(1, 1, 1) = 0 addRock(1, 1, 1) = 1 addRock(1, 1, 1) = 2 addRock(-1, 1, 1) = INVALID addRock(100, 1, 1) = INVALID
                addRock(1, -1, 1) = INVALID addRock(1, 10, 1) = INVALID addRock(1, 1, 0) = INVALID addRock(1, 1, 4) = INVALID
                """);
        Script.run("promise 4: addRock is an action, the first call too", "addRock(0, 0, 1) = 0 count(9) = 1 undo() = 0 count(1) = 0");
        Script.run("promise 4: a rock that is added on the last day", """
                pass(60) = 0 pass(60) = 0 pass(60) = 0 pass(19) = 0 addRock(0, 9, 1) = 0 landing(0, 199) = 199 rock(0, 5) = 0
                """);
    }

    private static void setKeep() {
        Script.run("promise 5, rock: a rock, and there is none", """
                setKeep(0, 0, 0) = INVALID setKeep(-1, 0, 0) = INVALID setKeep(2, 0, 0) = INVALID count(9) = 0
                """);
        Script.run("promise 5, rock: a rock, and there is one", """
                addRock(0, 9, 1) = 0 setKeep(-1, 0, 0) = INVALID setKeep(1, 0, 0) = INVALID setKeep(2, 0, 0) = INVALID
                setKeep(MIN, 0, 0) = INVALID setKeep(MAX, 0, 0) = INVALID setKeep(0, 0, 0) = 0
                """);
        Script.run("promise 5, rock: a rock, and there are three", """
                program("rock 0 9 1;rock 0 9 1;rock 0 9 1;bring 0 0 0 10;bring 2 0 0 10;pass 1;") = 6 setKeep(-1, 0, 0) = INVALID
                setKeep(3, 0, 0) = INVALID setKeep(0, 0, 7) = 0 setKeep(2, 0, 8) = 0 store(0, 0, 1) = 7 store(1, 0, 1) = 0 store(2, 0, 1) = 8
                """);
        Script.run("promise 5, store: 0 to 2", """
                program("rock 0 9 1;bring 0 0 0 10;bring 0 0 2 10;pass 1;") = 4 setKeep(0, -1, 0) = INVALID setKeep(0, 3, 0) = INVALID
                setKeep(0, MIN, 0) = INVALID setKeep(0, MAX, 0) = INVALID setKeep(0, 0, 4) = 0 setKeep(0, 2, 6) = 0
                store(0, 0, 1) = 4 store(0, 1, 1) = 0 store(0, 2, 1) = 6
                """);
        Script.run("promise 5, keep: 0 to 999", """
                program("rock 0 9 1;bring 0 0 0 300;bring 0 0 0 300;bring 0 0 0 300;bring 0 0 0 300;pass 1;") = 6
                setKeep(0, 0, -1) = INVALID setKeep(0, 0, 1000) = INVALID setKeep(0, 0, MIN) = INVALID setKeep(0, 0, MAX) = INVALID
                setKeep(0, 0, 999) = 0 store(0, 0, 1) = 999 setKeep(0, 0, 0) = 999 store(0, 0, 1) = 0
                """);
    }

    private static void setKeepAndAmounts() {
        Script.run("promise 5: the previous keep, the smallest and the greatest", """
                program("rock 0 9 1;bring 0 0 0 300;bring 0 0 0 300;bring 0 0 0 300;bring 0 0 0 300;pass 1;") = 6
                setKeep(0, 0, 999) = 0 setKeep(0, 0, 999) = 999 setKeep(0, 0, 1) = 999 setKeep(0, 0, 0) = 1 setKeep(0, 0, 0) = 0
                """);
        Script.run("promise 5: ILLEGAL_STATE if keep is greater than the amount", """
                program("rock 0 9 1;bring 0 0 1 20;pass 1;") = 3 setKeep(0, 1, 21) = ILLEGAL setKeep(0, 1, 999) = ILLEGAL
                setKeep(0, 1, 20) = 0 setKeep(0, 1, 21) = ILLEGAL store(0, 1, 1) = 20 setKeep(0, 1, 19) = 20
                """);
        Script.run("promise 5: an empty store allows no keep but 0", """
                addRock(0, 9, 1) = 0 setKeep(0, 2, 1) = ILLEGAL setKeep(0, 2, 0) = 0 setKeep(0, 0, 1) = ILLEGAL setKeep(0, 1, 999) = ILLEGAL
                """);
        Script.run("promise 5: a full store allows every keep, of one less the greatest one is refused", """
                program("rock 0 9 1;bring 0 0 0 300;bring 0 0 0 300;bring 0 0 0 300;bring 0 0 0 98;pass 1;") = 6
                setKeep(0, 0, 999) = ILLEGAL setKeep(0, 0, 998) = 0 bring(0, 1, 0, 1) = 1 pass(1) = 0 setKeep(0, 0, 999) = 998
                """);
        Script.run("promise 5: INVALID_ARGUMENT comes before ILLEGAL_STATE", """
                addRock(0, 9, 1) = 0 setKeep(0, 0, 1000) = INVALID setKeep(1, 0, 1) = INVALID setKeep(0, 3, 1) = INVALID
                setKeep(0, -1, 999) = INVALID setKeep(0, 0, 1) = ILLEGAL
                """);
        Script.run("promise 5: setKeep is an action", "addRock(0, 9, 1) = 0 setKeep(0, 0, 0) = 0 count(9) = 2 undo() = 1");
        Script.run("promise 5: on the last day", """
                program("rock 0 9 1;bring 0 0 1 20;pass 60;pass 60;pass 60;pass 19;") = 6 setKeep(0, 1, 20) = 0 setKeep(0, 1, 21) = ILLEGAL
                """);
    }

    private static void come() {
        Script.run("promise 6, rank: 0 to 2", """
                come(-1) = INVALID come(3) = INVALID come(MIN) = INVALID come(MAX) = INVALID come(0) = 0 come(2) = 1
                keeper(0, 0) = 0 keeper(1, 0) = 2 count(9) = 2
                """);
        Script.run("promise 6: returns the keeper's number, 0 for the first and 7 for the last one", """
                come(0) = 0 come(0) = 1 come(0) = 2 come(0) = 3 come(0) = 4 come(0) = 5 come(0) = 6 come(0) = 7
                """);
        Script.run("promise 6: CAPACITY_EXCEEDED if there are 8", """
                program("keeper 0;keeper 0;keeper 0;keeper 0;keeper 0;keeper 0;keeper 0;") = 7 come(0) = 7 come(0) = FULL come(1) = FULL
                come(2) = FULL count(2) = 8 count(9) = 2
                """);
        Script.run("promise 6: CAPACITY_EXCEEDED if there are 8, though not all of them are ashore", """
                program("rock 0 9 1;keeper 0;keeper 0;keeper 0;keeper 0;keeper 0;keeper 0;keeper 0;keeper 0;out 0 0 0;pass 1;") = 11
                count(4) = 7 come(0) = FULL
                """);
        Script.run("promise 6: INVALID_ARGUMENT comes before CAPACITY_EXCEEDED", """
                program("keeper 0;keeper 0;keeper 0;keeper 0;keeper 0;keeper 0;keeper 0;keeper 0;") = 8 come(-1) = INVALID come(3) = INVALID
                come(0) = FULL
                """);
        Script.run("promise 6: come is an action, the first call too", "come(0) = 0 count(9) = 1 undo() = 0 count(2) = 0");
        Script.run("promise 6: on the last day", """
                pass(60) = 0 pass(60) = 0 pass(60) = 0 pass(19) = 0 come(2) = 0 keeper(0, 6) = 0 keeper(0, 1) = NONE
                """);
    }
}
