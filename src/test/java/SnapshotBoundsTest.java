/** The boundary cases of "Snapshots", "Undo" and promises 13 to 15, a run for each sentence. */
public final class SnapshotBoundsTest {
    private SnapshotBoundsTest() {
    }

    public static void main(String[] arguments) {
        take();
        restore();
        snapshots();
        restored();
        undo();
        history();
        actions();
        refusedCalls();
        Script.finish();
    }

    private static void take() {
        Script.run("promise 13, slot: 0 or 1", """
                take(-1) = INVALID take(2) = INVALID take(MIN) = INVALID take(MAX) = INVALID count(8) = 0 take(0) = 0 count(8) = 1
                take(1) = 0 count(8) = 2 count(9) = 2
                """);
        Script.run("promise 13: a snapshot of a new object", "take(1) = 0 count(8) = 1 restore(0) = ILLEGAL restore(1) = 0 count(9) = 2");
        Script.run("promise 13: in place of one that is there", """
                take(0) = 0 pass(1) = 0 take(0) = 1 count(8) = 1 pass(1) = 0 restore(0) = 1 count(0) = 1 restore(1) = ILLEGAL
                """);
        Script.run("promise 13: returns today, the last day too", """
                take(0) = 0 pass(60) = 0 take(1) = 60 pass(60) = 0 pass(60) = 0 pass(19) = 0 take(1) = 199 restore(1) = 199
                restore(0) = 0
                """);
        Script.run("promise 13: take is an action, the first call too", "take(0) = 0 count(9) = 1 undo() = 0 count(8) = 0 restore(0) = ILLEGAL");
        Script.run("promise 13: take in place of one that is there can be undone", """
                take(0) = 0 pass(5) = 0 take(0) = 5 undo() = 2 restore(0) = 0 count(0) = 0
                """);
    }

    private static void restore() {
        Script.run("promise 14, slot: 0 or 1", """
                take(0) = 0 take(1) = 0 pass(1) = 0 restore(-1) = INVALID restore(2) = INVALID restore(MIN) = INVALID restore(MAX) = INVALID
                count(0) = 1 restore(0) = 0 pass(1) = 0 restore(1) = 0 count(0) = 0
                """);
        Script.run("promise 14: ILLEGAL_STATE if slot 0 is empty", "take(1) = 0 restore(0) = ILLEGAL restore(1) = 0");
        Script.run("promise 14: ILLEGAL_STATE if slot 1 is empty", "take(0) = 0 restore(1) = ILLEGAL restore(0) = 0");
        Script.run("promise 14: ILLEGAL_STATE if the slot is empty again", "take(0) = 0 undo() = 0 restore(0) = ILLEGAL");
        Script.run("promise 14: INVALID_ARGUMENT comes before ILLEGAL_STATE", "restore(2) = INVALID restore(-1) = INVALID restore(0) = ILLEGAL");
        Script.run("promise 14: returns today then", """
                pass(3) = 0 take(0) = 3 pass(4) = 0 take(1) = 7 pass(60) = 0 restore(0) = 3 restore(1) = 7 count(0) = 7
                """);
        Script.run("promise 14: the snapshot stays", """
                take(1) = 0 pass(1) = 0 restore(1) = 0 count(8) = 1 pass(2) = 0 restore(1) = 0 pass(3) = 0 restore(1) = 0
                """);
        Script.run("promise 14: restore is an action, also if nothing changes by it", """
                take(0) = 0 restore(0) = 0 count(9) = 2 restore(0) = 0 count(9) = 3 undo() = 2 undo() = 1 count(8) = 1
                """);
        Script.run("promise 14: from the last day", """
                take(0) = 0 pass(60) = 0 pass(60) = 0 pass(60) = 0 pass(19) = 0 pass(1) = ILLEGAL restore(0) = 0 pass(60) = 0 count(0) = 60
                """);
    }

    private static void snapshots() {
        Script.run("Snapshots: there are two slots", """
                pass(1) = 0 take(0) = 1 pass(1) = 0 take(1) = 2 pass(1) = 0 take(2) = INVALID restore(0) = 1 restore(1) = 2 count(8) = 2
                """);
        Script.run("Snapshots: empty at first", "count(8) = 0 restore(0) = ILLEGAL restore(1) = ILLEGAL");
        Script.run("Snapshots: what happens later changes no snapshot", """
                program("rock 0 9 2;keeper 1;bring 0 1 0 9;out 0 1 0;") = 4 take(0) = 0 setTide(5, 1) = 50 setSwell(0, 9) = 3 pass(2) = 0
                setKeep(0, 0, 1) = 0 addRock(9, 9, 3) = 1 come(2) = 1 take(1) = 2 restore(0) = 0
                sea(5, 0) = 50 sea(0, 1) = 3 count(1) = 1 count(2) = 1 count(3) = 2 store(0, 0, 0) = 0 store(0, 0, 1) = 0 keeper(0, 1) = NONE
                keeper(0, 6) = 0 turn(0, 6) = 9 turn(1, 4) = 0
                """);
        Script.run("Snapshots: what happens behind a restore changes no snapshot", """
                program("rock 0 9 2;keeper 1;bring 0 1 0 9;out 0 1 0;") = 4 take(0) = 0 restore(0) = 0 setTide(5, 1) = 50 setSwell(0, 9) = 3
                pass(2) = 0 setKeep(0, 0, 1) = 0 addRock(9, 9, 3) = 1 come(2) = 1 restore(0) = 0
                sea(5, 0) = 50 sea(0, 1) = 3 count(1) = 1 count(2) = 1 count(3) = 2 store(0, 0, 0) = 0 store(0, 0, 1) = 0 keeper(0, 1) = NONE
                keeper(0, 6) = 0 turn(0, 6) = 9 turn(1, 4) = 0
                """);
        Script.run("Snapshots: the two do not change one another", """
                come(0) = 0 take(0) = 0 come(1) = 1 take(1) = 0 restore(0) = 0 count(2) = 1 come(2) = 1 take(0) = 0 restore(1) = 0
                keeper(1, 0) = 1 restore(0) = 0 keeper(1, 0) = 2
                """);
        Script.run("Snapshots: of an empty object, restored on a full one", """
                take(0) = 0 program("rock 0 9 1;rock 0 9 1;rock 0 9 1;keeper 0;keeper 0;keeper 0;keeper 0;keeper 0;keeper 0;keeper 0;keeper 0;") = 11
                restore(0) = 0 count(1) = 0 count(2) = 0 rock(0, 0) = INVALID keeper(0, 0) = INVALID addRock(7, 8, 3) = 0 come(2) = 0
                rock(0, 0) = 7 keeper(0, 0) = 2
                """);
    }

    private static void restored() {
        Script.run("Snapshots: to restore makes the sea as it was", """
                setTide(0, 0) = 50 setTide(13, 99) = 50 setSwell(0, 0) = 3 setSwell(199, 9) = 3 take(0) = 0 setTide(0, 9) = 0
                setTide(13, 9) = 99 setSwell(0, 5) = 0 setSwell(199, 5) = 9 setSwell(100, 5) = 3 restore(0) = 0
                sea(0, 0) = 0 sea(13, 0) = 99 sea(0, 1) = 0 sea(199, 1) = 9 sea(100, 1) = 3
                """);
        Script.run("Snapshots: to restore makes rocks and stores as they were", """
                program("rock 9 5 2;bring 0 0 0 9;keeper 0;out 0 1 0;pass 2;") = 5 setKeep(0, 0, 4) = 0 take(0) = 2
                addRock(0, 9, 1) = 1 pass(1) = 0 setKeep(0, 0, 0) = 4 bring(0, 3, 2, 300) = 1 pass(1) = 0 restore(0) = 2
                count(1) = 1 rock(0, 0) = 9 rock(0, 1) = 5 rock(0, 2) = 2 rock(1, 0) = INVALID store(0, 0, 0) = 6 store(0, 0, 1) = 4
                store(0, 0, 2) = 3 store(0, 0, 3) = 0 store(0, 0, 4) = 9 store(0, 1, 3) = 5 store(0, 2, 0) = 0 store(0, 2, 4) = 0
                """);
        Script.run("Snapshots: to restore makes keepers as they were", """
                program("rock 0 3 2;keeper 1;keeper 2;out 0 0 1;swell 1 9;bring 0 1 0 1;pass 2;") = 7 take(0) = 2
                program("ashore 0 2 1;out 0 2 0;keeper 0;pass 3;") = 4 restore(0) = 2 count(2) = 2 count(4) = 1
                keeper(0, 1) = NONE keeper(0, 6) = 2 keeper(0, 3) = 0 keeper(1, 1) = 0 keeper(1, 2) = 9 keeper(1, 3) = 2 keeper(1, 4) = 1
                keeper(1, 5) = 0 rock(0, 5) = 1
                """);
        Script.run("Snapshots: to restore makes turns as they were", """
                program("rock 0 3 2;keeper 0;keeper 0;keeper 0;keeper 0;relief 0 5 0 1;relief 0 6 2 3;out 0 7 0;bring 0 8 2 9;") = 9 take(0) = 0
                exchange(0, 1) = 3 cancel(2) = 3 setSwell(5, 9) = 3 pass(6) = 1 bring(0, 9, 0, 1) = 4 restore(0) = 0 count(3) = 4
                turn(0, 2) = 5 turn(0, 4) = 1 turn(1, 4) = 3 turn(2, 0) = 1 turn(2, 4) = 0 turn(2, 3) = NONE turn(3, 5) = 2 turn(3, 6) = 9
                """);
        Script.run("Snapshots: to restore makes the accounts of turns as they were", """
                program("rock 0 3 2;keeper 0;bring 0 0 0 1;bring 0 0 0 1;ashore 0 0 0;swell 1 9;bring 0 1 0 1;pass 2;") = 8
                count(5) = 2 count(6) = 1 count(7) = 1 take(1) = 2
                program("swell 3 9;bring 0 3 0 1;bring 0 3 0 1;ashore 0 4 0;pass 3;") = 5 count(5) = 5 count(6) = 2 count(7) = 3
                restore(1) = 2 count(5) = 2 count(6) = 1 count(7) = 1
                """);
        Script.run("Snapshots: nothing else changes, not the text, the history or the other slot", """
                come(0) = 0 take(1) = 0 come(0) = 1 take(0) = 0 type("keeper 2;") = 9 count(9) = 4 restore(0) = 0 count(10) = 9 count(9) = 5
                count(8) = 2 run() = 1 keeper(2, 0) = 2 restore(1) = 0 count(2) = 1
                """);
    }

    private static void undo() {
        Script.run("promise 15: ILLEGAL_STATE if the history is empty", "undo() = ILLEGAL count(9) = 0 undo() = ILLEGAL");
        Script.run("promise 15: a history of one state", "come(0) = 0 undo() = 0 count(9) = 0 count(2) = 0 undo() = ILLEGAL");
        Script.run("promise 15: a full history, to its end", """
                pass(1) = 0 pass(2) = 0 pass(3) = 0 pass(4) = 0 pass(5) = 0 count(9) = 5 undo() = 4 count(0) = 10 undo() = 3 count(0) = 6
                undo() = 2 count(0) = 3 undo() = 1 count(0) = 1 undo() = 0 count(0) = 0 undo() = ILLEGAL
                """);
        Script.run("promise 15: undo is no action, what was undone is gone", """
                come(0) = 0 come(1) = 1 undo() = 1 count(9) = 1 undo() = 0 count(9) = 0 undo() = ILLEGAL count(2) = 0
                """);
        Script.run("promise 15: from the last day", """
                pass(60) = 0 pass(60) = 0 pass(60) = 0 pass(19) = 0 pass(1) = ILLEGAL undo() = 3 count(0) = 180 pass(19) = 0 count(0) = 199
                """);
    }

    private static void history() {
        Script.run("Undo: a history of at most 5 states", """
                come(0) = 0 come(0) = 1 come(0) = 2 come(0) = 3 count(9) = 4 come(0) = 4 count(9) = 5 come(0) = 5 count(9) = 5
                come(0) = 6 count(9) = 5
                """);
        Script.run("Undo: when a sixth one is recorded, the oldest one is dropped", """
                come(0) = 0 come(0) = 1 come(0) = 2 come(0) = 3 come(0) = 4 come(0) = 5 undo() = 4 count(2) = 5 undo() = 3 count(2) = 4
                undo() = 2 count(2) = 3 undo() = 1 count(2) = 2 undo() = 0 count(2) = 1 undo() = ILLEGAL count(2) = 1
                """);
        Script.run("Undo: when a seventh one and more are recorded, the oldest ones are dropped", """
                setTide(0, 1) = 50 setTide(0, 2) = 1 setTide(0, 3) = 2 setTide(0, 4) = 3 setTide(0, 5) = 4 setTide(0, 6) = 5
                setTide(0, 7) = 6 setTide(0, 8) = 7 setTide(0, 9) = 8 setTide(0, 10) = 9 setTide(0, 11) = 10 setTide(0, 12) = 11
                setTide(0, 13) = 12 undo() = 4 sea(0, 0) = 12 undo() = 3 sea(0, 0) = 11 undo() = 2 sea(0, 0) = 10 undo() = 1
                sea(0, 0) = 9 undo() = 0 sea(0, 0) = 8 undo() = ILLEGAL
                """);
        Script.run("Undo: room again behind undo()", """
                come(0) = 0 come(0) = 1 come(0) = 2 come(0) = 3 come(0) = 4 come(0) = 5 undo() = 4 undo() = 3 come(1) = 4 come(1) = 5
                count(9) = 5 come(1) = 6 count(9) = 5 undo() = 4 undo() = 3 undo() = 2 count(2) = 4 undo() = 1 undo() = 0 count(2) = 2
                """);
        Script.run("Undo: a state is everything but the text", """
                come(0) = 0 type("keeper 1;") = 9 come(2) = 1 append(32) = 10 undo() = 1 count(10) = 10 run() = 1 keeper(1, 0) = 1
                """);
        Script.run("Undo: the text is not restored when a run is undone", """
                type("keeper 1;") = 9 run() = 1 count(10) = 0 undo() = 0 count(10) = 0 count(2) = 0
                """);
        Script.run("Undo: the snapshots belong to a state", """
                pass(1) = 0 take(0) = 1 pass(1) = 0 take(0) = 2 take(1) = 2 undo() = 4 count(8) = 1 undo() = 3 restore(0) = 1 undo() = 3
                undo() = 2 undo() = 1 count(8) = 0
                """);
        Script.run("Undo: a snapshot that is dropped with the present state may come back", """
                take(0) = 0 come(0) = 0 take(0) = 0 undo() = 2 restore(0) = 0 count(2) = 0 undo() = 2 undo() = 1 undo() = 0 count(8) = 0
                """);
        Script.run("Undo: a state is not changed by what happens later", """
                program("rock 0 3 2;keeper 2;out 0 0 0;bring 0 0 0 20;bring 0 9 0 1;") = 5 take(0) = 0 pass(2) = 0 setKeep(0, 0, 5) = 0
                setTide(1, 1) = 50 undo() = 4 undo() = 3 store(0, 0, 1) = 0 sea(1, 0) = 50 count(0) = 2 undo() = 2 count(0) = 0 count(3) = 3
                store(0, 0, 0) = 0 keeper(0, 1) = NONE count(8) = 1 undo() = 1 count(8) = 0 undo() = 0 count(1) = 0
                """);
    }

    private static void actions() {
        Script.run("Undo: every successful call of an action records the state, also if nothing changes by it", """
                addRock(0, 9, 1) = 0 setTide(0, 50) = 50 setSwell(0, 3) = 3 setKeep(0, 0, 0) = 0 count(9) = 4 undo() = 3 undo() = 2
                undo() = 1 undo() = 0 take(0) = 0 take(0) = 0 restore(0) = 0 run() = 0 count(9) = 4 undo() = 3 undo() = 2 undo() = 1
                """);
        Script.run("Undo: the calls that are no actions record nothing", """
                program("rock 0 9 1;keeper 0;bring 0 0 0 1;") = 3 append(32) = 1 clearText() = 1 count(0) = 0 rock(0, 0) = 0 store(0, 0, 0) = 0
                keeper(0, 0) = 0 turn(0, 0) = 2 sea(0, 0) = 50 landing(0, 0) = 0 landings(0, 0, 0) = 1 cutOff(1, 0, 0) = 0 lasts(0, 0) = NONE
                doneOn(0) = 0 later(0, 1, 0) = 0 nextOut() = 0 nextIn() = NONE count(9) = 1 undo() = 0
                """);
        Script.run("Undo: a refused call of an action records nothing, in a full history", """
                come(0) = 0 come(0) = 1 come(0) = 2 come(0) = 3 come(0) = 4 come(3) = INVALID setTide(14, 0) = INVALID pass(61) = INVALID
                restore(0) = ILLEGAL undo() = 4 count(2) = 4 undo() = 3 undo() = 2 undo() = 1 undo() = 0 count(2) = 0
                """);
    }

    private static void refusedCalls() {
        Script.run("Errors: refused calls on an empty object", """
                setTide(-1, 0) = INVALID setSwell(-1, 0) = INVALID addRock(0, 0, 0) = INVALID setKeep(0, 0, 0) = INVALID come(3) = INVALID
                relieve(0, 0, 0, 1) = INVALID change(0, 0, 0, 0) = INVALID bring(0, 0, 0, 1) = INVALID cancel(0) = INVALID
                exchange(0, 1) = INVALID pass(0) = INVALID take(2) = INVALID restore(0) = ILLEGAL undo() = ILLEGAL append(0) = INVALID
                count(11) = INVALID rock(0, 0) = INVALID store(0, 0, 0) = INVALID keeper(0, 0) = INVALID turn(0, 0) = INVALID
                sea(200, 0) = INVALID landing(0, 0) = INVALID landings(0, 0, 0) = INVALID cutOff(1, 0, 0) = INVALID lasts(0, 0) = INVALID
                doneOn(0) = INVALID later(0, 0, 0) = INVALID
                """);
        Script.run("Errors: refused calls with a full history, two snapshots and a full text", """
                program("rock 0 9 1;keeper 0;keeper 1;bring 0 9 0 1;out 0 0 0;pass 1;") = 6 take(0) = 1 come(0) = 2 take(1) = 1 come(2) = 3
                come(2) = 4 type("%s") = 140
                setTide(0, 100) = INVALID setSwell(0, 0) = ILLEGAL addRock(0, 10, 1) = INVALID setKeep(0, 0, 1) = ILLEGAL come(-1) = INVALID
                relieve(0, 0, 0, 1) = ILLEGAL change(0, 0, 0, 0) = ILLEGAL bring(0, 0, 0, 1) = ILLEGAL cancel(1) = INVALID
                exchange(0, 1) = INVALID pass(0) = INVALID take(-1) = INVALID restore(-1) = INVALID append(32) = FULL run() = -1139
                """.formatted("keeper 0;" + " ".repeat(130) + "x"));
    }
}
