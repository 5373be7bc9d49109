/** Promises 13 to 15: snapshots, undo; and what the Terms say of the history. */
public final class SnapshotsTest {
    private SnapshotsTest() {
    }

    public static void main(String[] arguments) {
        promise13();
        promise14();
        promise15();
        history();
        Script.finish();
    }

    private static void promise13() {
        Script.run("promise 13: take", """
                take(-1) = INVALID take(2) = INVALID take(MIN) = INVALID take(MAX) = INVALID count(8) = 0 count(9) = 0
                take(0) = 0 count(8) = 1 count(9) = 1 pass(7) = 0 take(1) = 7 count(8) = 2 pass(1) = 0 take(0) = 8
                count(8) = 2 count(9) = 5 restore(1) = 7 restore(0) = 8 count(0) = 8 undo() = 4 undo() = 3 undo() = 2
                restore(0) = 0 count(0) = 0
                """);
    }

    private static void promise14() {
        Script.run("promise 14: restore", """
                restore(-1) = INVALID restore(2) = INVALID restore(MIN) = INVALID restore(0) = ILLEGAL restore(1) = ILLEGAL
                count(9) = 0 pass(2) = 0 take(1) = 2 restore(0) = ILLEGAL restore(1) = 2 restore(2) = INVALID
                count(8) = 1 count(9) = 3 pass(5) = 0 restore(1) = 2 count(0) = 2 restore(1) = 2 count(9) = 5 count(8) = 1
                """);
        Script.run("promise 14: restore returns sea, rocks, stores, keepers, turns, accounts and today", """
                addRock(0, 3, 2) = 0 come(2) = 0 change(0, 0, 0, 1) = 1 bring(0, 0, 0, 30) = 2 bring(0, 9, 1, 5) = 3 pass(2) = 0
                take(0) = 2
                setTide(0, 1) = 50 setSwell(5, 9) = 3 setSwell(2, 9) = 3 addRock(9, 9, 1) = 1 come(1) = 1 setKeep(0, 0, 7) = 0
                change(0, 2, 0, 0) = 2 bring(0, 5, 0, 3) = 3 cancel(0) = 2 pass(4) = 2
                type("xy") = 2
                restore(0) = 2
                count(0) = 2 count(1) = 1 count(2) = 1 count(3) = 1 count(4) = 0 count(5) = 2 count(6) = 0 count(7) = 0
                count(8) = 1 count(9) = 5 count(10) = 2 sea(0, 0) = 50 sea(5, 1) = 3 sea(2, 1) = 3 rock(0, 5) = 0 rock(0, 3) = 1
                store(0, 0, 0) = 24 store(0, 0, 1) = 0 store(0, 0, 2) = 6 store(0, 0, 4) = 30 store(0, 1, 3) = 10
                keeper(0, 1) = 0 keeper(0, 2) = 6 keeper(0, 3) = 2 keeper(0, 4) = 0 turn(0, 6) = 5 turn(0, 2) = 9
                setSwell(2, 9) = 3 setSwell(1, 9) = ILLEGAL
                """);
        Script.run("promise 14: the snapshot stays as it was", """
                addRock(0, 9, 1) = 0 take(0) = 0 bring(0, 0, 0, 10) = 1 setSwell(0, 5) = 3 take(1) = 0 pass(1) = 0
                restore(0) = 0 bring(0, 0, 1, 7) = 1 pass(3) = 0 setTide(1, 2) = 50 restore(0) = 0 count(3) = 0 sea(0, 1) = 3
                sea(1, 0) = 50 store(0, 1, 0) = 0 restore(1) = 0 count(3) = 1 turn(0, 6) = 10 sea(0, 1) = 5 undo() = 4
                count(3) = 0 restore(1) = 0 count(3) = 1
                """);
    }

    private static void promise15() {
        Script.run("promise 15: undo", """
                undo() = ILLEGAL come(0) = 0 come(1) = 1 undo() = 1 count(2) = 1 count(9) = 1 undo() = 0 count(2) = 0
                undo() = ILLEGAL count(9) = 0
                """);
        Script.run("promise 15: undo returns everything but the text, snapshots too", """
                addRock(0, 9, 1) = 0 take(0) = 0 pass(4) = 0 type("ab") = 2 take(0) = 4 type("c") = 3 take(1) = 4 count(8) = 2
                undo() = 4 count(8) = 1 count(10) = 3 restore(0) = 4 undo() = 4 undo() = 3 restore(0) = 0 count(0) = 0
                undo() = 3 count(0) = 4 undo() = 2 count(0) = 0 undo() = 1 count(8) = 0 restore(0) = ILLEGAL count(10) = 3
                """);
    }

    private static void history() {
        Script.run("the history keeps at most 5 states, the latest ones", """
                come(0) = 0 come(0) = 1 come(0) = 2 come(0) = 3 come(0) = 4 count(9) = 5 come(0) = 5 count(9) = 5 come(0) = 6
                count(9) = 5 undo() = 4 count(2) = 6 undo() = 3 count(2) = 5 come(1) = 5 count(9) = 4 keeper(5, 0) = 1
                undo() = 3 undo() = 2 count(2) = 4 undo() = 1 undo() = 0 count(2) = 2 undo() = ILLEGAL count(2) = 2
                """);
        Script.run("what is an action, also if nothing changes by it, and what is none", """
                addRock(0, 9, 1) = 0 count(9) = 1 setTide(0, 50) = 50 count(9) = 2 setSwell(0, 3) = 3 count(9) = 3
                setKeep(0, 0, 0) = 0 count(9) = 4 undo() = 3 undo() = 2 undo() = 1 undo() = 0
                addRock(0, 9, 1) = 0 come(0) = 0 come(0) = 1 relieve(0, 0, 0, 1) = 1 relieve(0, 0, 0, 1) = 2 undo() = 4 undo() = 3
                append(32) = 1 count(9) = 3 clearText() = 1 count(9) = 3 landing(0, 0) = 0 landings(0, 0, 5) = 6
                cutOff(1, 0, 5) = 0 lasts(0, 0) = NONE later(0, 5, 6) = 5 nextOut() = 0 nextIn() = NONE count(9) = 3
                run() = 0 count(9) = 4 undo() = 3 change(0, 0, 0, 1) = 1 count(9) = 4 doneOn(0) = 0 count(9) = 4
                cancel(0) = 0 count(9) = 5
                undo() = 4 undo() = 3 undo() = 2 undo() = 1 undo() = 0 bring(0, 0, 0, 1) = INVALID
                take(0) = 0 count(9) = 1 restore(0) = 0 count(9) = 2 pass(1) = 0 count(9) = 3
                """);
        Script.run("exchange and bring are actions", """
                addRock(0, 9, 1) = 0 come(0) = 0 come(0) = 1 come(0) = 2 program("relief 0 1 0 1;relief 0 1 0 2;") = 2
                undo() = 4 undo() = 3 undo() = 2 come(0) = 1 come(0) = 2 program("relief 0 1 0 1;relief 0 1 0 2;") = 2
                count(9) = 5 undo() = 4 relieve(0, 1, 0, 1) = 1 undo() = 4 bring(0, 0, 1, 1) = 1 count(9) = 5 undo() = 4
                relieve(0, 1, 0, 1) = 1 relieve(0, 1, 0, 2) = 2 undo() = 4 undo() = 3 undo() = 2 undo() = 1
                """);
        Script.run("exchange is an action", """
                program("rock 0 9 1;keeper 0;keeper 0;keeper 0;relief 0 1 0 1;relief 0 1 0 2;") = 6 count(9) = 1
                exchange(0, 1) = 2 count(9) = 2 undo() = 1 turn(0, 4) = 1
                """);
    }
}
