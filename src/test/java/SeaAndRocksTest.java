/** Promises 1 to 5: a new object, the sea, rocks and their keeps. */
public final class SeaAndRocksTest {
    private SeaAndRocksTest() {
    }

    public static void main(String[] arguments) {
        promise1();
        promise2();
        promise3();
        promise4();
        promise5();
        Script.finish();
    }

    private static void promise1() {
        Script.run("promise 1: a new object", """
                count(0) = 0 count(1) = 0 count(2) = 0 count(3) = 0 count(4) = 0 count(5) = 0
                count(6) = 0 count(7) = 0 count(8) = 0 count(9) = 0 count(10) = 0
                rock(0, 0) = INVALID store(0, 0, 0) = INVALID keeper(0, 0) = INVALID turn(0, 0) = INVALID
                sea(0, 0) = 50 sea(13, 0) = 50 sea(199, 0) = 50 sea(0, 1) = 3 sea(199, 1) = 3
                undo() = ILLEGAL restore(0) = ILLEGAL restore(1) = ILLEGAL
                nextOut() = NONE nextIn() = NONE clearText() = 0
                """);
    }

    private static void promise2() {
        Script.run("promise 2: setTide", """
                setTide(0, 99) = 50 setTide(0, 0) = 99 setTide(13, 0) = 50 setTide(13, 99) = 0 setTide(1, 7) = 50
                sea(0, 0) = 0 sea(14, 0) = 0 sea(196, 0) = 0 sea(13, 0) = 99 sea(195, 0) = 99 sea(1, 0) = 7 sea(2, 0) = 50
                setTide(-1, 50) = INVALID setTide(14, 50) = INVALID setTide(0, -1) = INVALID setTide(0, 100) = INVALID
                setTide(MIN, 0) = INVALID setTide(MAX, 0) = INVALID setTide(0, MIN) = INVALID setTide(0, MAX) = INVALID
                count(9) = 5 undo() = 4 sea(1, 0) = 50
                """);
        Script.run("promise 2: setTide behind today, and an action also if nothing changes", """
                pass(20) = 0 setTide(3, 8) = 50 setTide(3, 8) = 8 sea(3, 0) = 8 sea(31, 0) = 8 count(9) = 3
                """);
    }

    private static void promise3() {
        Script.run("promise 3: setSwell", """
                setSwell(0, 9) = 3 setSwell(0, 0) = 9 setSwell(199, 0) = 3 setSwell(199, 9) = 0
                sea(0, 1) = 0 sea(199, 1) = 9 sea(1, 1) = 3 sea(14, 1) = 3
                setSwell(-1, 3) = INVALID setSwell(200, 3) = INVALID setSwell(0, -1) = INVALID setSwell(0, 10) = INVALID
                setSwell(MIN, 3) = INVALID setSwell(MAX, 3) = INVALID
                count(9) = 4 undo() = 3 sea(199, 1) = 0
                """);
        Script.run("promise 3: setSwell before today", """
                pass(5) = 0 setSwell(4, 0) = ILLEGAL setSwell(0, 0) = ILLEGAL setSwell(5, 0) = 3 setSwell(5, 0) = 0
                setSwell(4, 10) = INVALID setSwell(-1, 0) = INVALID sea(4, 1) = 3 count(9) = 3
                """);
    }

    private static void promise4() {
        Script.run("promise 4: addRock", """
                addRock(-1, 0, 1) = INVALID addRock(100, 0, 1) = INVALID addRock(0, -1, 1) = INVALID
                addRock(0, 10, 1) = INVALID addRock(0, 0, 0) = INVALID addRock(0, 0, 4) = INVALID
                addRock(MIN, 0, 1) = INVALID addRock(0, MAX, 1) = INVALID addRock(0, 0, MIN) = INVALID
                count(1) = 0 count(9) = 0
                addRock(0, 9, 1) = 0 addRock(99, 0, 3) = 1 addRock(40, 4, 2) = 2 count(1) = 3 count(9) = 3
                addRock(40, 4, 2) = FULL addRock(100, 4, 2) = INVALID addRock(40, 10, 2) = INVALID addRock(40, 4, 4) = INVALID
                rock(0, 0) = 0 rock(0, 1) = 9 rock(0, 2) = 1 rock(1, 0) = 99 rock(1, 1) = 0 rock(1, 2) = 3
                rock(2, 0) = 40 rock(2, 1) = 4 rock(2, 2) = 2
                store(2, 0, 0) = 0 store(2, 0, 1) = 0 undo() = 2 count(1) = 2
                """);
        Script.run("promise 4: a rock that is added again starts anew", """
                addRock(0, 9, 3) = 0 come(2) = 0 change(0, 0, 0, 1) = 1 bring(0, 0, 0, 300) = 2 setSwell(1, 9) = 3
                undo() = 4 undo() = 3 undo() = 2 undo() = 1 undo() = 0
                addRock(1, 8, 2) = 0 come(1) = 0 store(0, 0, 0) = 0 rock(0, 5) = 0 rock(0, 3) = 0 keeper(0, 0) = 1
                keeper(0, 1) = NONE count(3) = 0
                """);
    }

    private static void promise5() {
        Script.run("promise 5: setKeep", """
                setKeep(0, 0, 0) = INVALID
                addRock(0, 9, 1) = 0 bring(0, 0, 1, 300) = 1 bring(0, 0, 1, 300) = 2 bring(0, 0, 1, 300) = 3
                bring(0, 0, 1, 300) = 4 bring(0, 0, 2, 17) = 5 pass(1) = 0 store(0, 1, 0) = 999
                setKeep(0, 1, 999) = 0 setKeep(0, 1, 0) = 999 setKeep(0, 2, 17) = 0 setKeep(0, 2, 18) = ILLEGAL
                setKeep(0, 2, 17) = 17 setKeep(0, 0, 0) = 0 setKeep(0, 0, 1) = ILLEGAL
                setKeep(-1, 0, 0) = INVALID setKeep(1, 0, 0) = INVALID setKeep(0, -1, 0) = INVALID setKeep(0, 3, 0) = INVALID
                setKeep(0, 0, -1) = INVALID setKeep(0, 0, 1000) = INVALID setKeep(0, 1, 1000) = INVALID
                setKeep(MAX, 0, 0) = INVALID setKeep(0, MIN, 0) = INVALID setKeep(0, 0, MAX) = INVALID
                store(0, 0, 1) = 0 store(0, 1, 1) = 0 store(0, 2, 1) = 17 count(9) = 5 undo() = 4 undo() = 3
                undo() = 2 store(0, 2, 1) = 0
                """);
    }
}
