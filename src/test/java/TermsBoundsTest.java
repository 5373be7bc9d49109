/** The boundary cases of "Terms", a run for each sentence: sea, rocks, stores, keepers, turns, errors. */
public final class TermsBoundsTest {
    private TermsBoundsTest() {
    }

    public static void main(String[] arguments) {
        days();
        tides();
        swells();
        rocks();
        landings();
        stores();
        keepers();
        turns();
        turnNumbers();
        errors();
        lifeOfAnObject();
        Script.finish();
    }

    private static void days() {
        Script.run("Terms: days are numbered from 0", """
                addRock(0, 9, 1) = 0 come(0) = 0 come(0) = 1
                sea(-1, 0) = INVALID sea(0, 0) = 50 setSwell(-1, 1) = INVALID setSwell(0, 1) = 3
                change(0, -1, 0, 1) = INVALID change(0, 0, 0, 1) = 1 relieve(0, -1, 0, 1) = INVALID relieve(0, 0, 0, 1) = 2
                bring(0, -1, 0, 1) = INVALID bring(0, 0, 0, 1) = 3 landing(0, -1) = INVALID landing(0, 0) = 0
                landings(0, -1, 0) = INVALID landings(0, 0, 0) = 1 cutOff(1, -1, 0) = INVALID cutOff(1, 0, 0) = 0
                """);
        Script.run("Terms: days are numbered to 199", """
                addRock(0, 9, 1) = 0 come(0) = 0 come(0) = 1
                sea(200, 0) = INVALID sea(199, 0) = 50 setSwell(200, 1) = INVALID setSwell(199, 1) = 3
                change(0, 200, 0, 1) = INVALID change(0, 199, 0, 1) = 1 relieve(0, 200, 0, 1) = INVALID relieve(0, 199, 0, 1) = 2
                bring(0, 200, 0, 1) = INVALID bring(0, 199, 0, 1) = 3 landing(0, 200) = INVALID landing(0, 199) = 199
                landings(0, 0, 200) = INVALID landings(0, 0, 199) = 200 cutOff(1, 0, 200) = INVALID cutOff(1, 0, 199) = 0
                """);
        Script.run("Terms: at first day 0 is today", """
                count(0) = 0 setSwell(0, 5) = 3 addRock(0, 9, 1) = 0 bring(0, 0, 0, 1) = 1 take(0) = 0
                """);
    }

    private static void tides() {
        Script.run("Sea: day d has the tide number d modulo 14", """
                setTide(0, 10) = 50 setTide(13, 23) = 50 setTide(3, 33) = 50
                sea(0, 0) = 10 sea(3, 0) = 33 sea(13, 0) = 23 sea(14, 0) = 10 sea(17, 0) = 33 sea(27, 0) = 23 sea(28, 0) = 10
                sea(195, 0) = 23 sea(196, 0) = 10 sea(199, 0) = 33 sea(1, 0) = 50 sea(12, 0) = 50 sea(15, 0) = 50 sea(198, 0) = 50
                """);
        Script.run("Sea: the tides repeat after 14 days, for landings too", """
                addRock(51, 9, 1) = 0 setTide(0, 51) = 50 landing(0, 0) = 0 landing(0, 1) = 14 landing(0, 15) = 28
                landing(0, 183) = 196 landing(0, 197) = NONE landings(0, 0, 199) = 15 cutOff(1, 0, 199) = 13
                setTide(13, 51) = 50 landing(0, 1) = 13 landing(0, 14) = 14 landing(0, 15) = 27 landings(0, 0, 199) = 29
                cutOff(1, 0, 199) = 12
                """);
        Script.run("Sea: the tides repeat after 14 days, for days that pass too", """
                addRock(51, 9, 1) = 0 setTide(0, 51) = 50 bring(0, 1, 0, 1) = 1 doneOn(0) = 14 pass(14) = 13 count(5) = 0
                turn(0, 2) = 14 pass(1) = 0 count(5) = 1
                """);
        Script.run("Sea: each of these 14 tides has a height that is at first 50", """
                sea(0, 0) = 50 sea(1, 0) = 50 sea(2, 0) = 50 sea(3, 0) = 50 sea(4, 0) = 50 sea(5, 0) = 50 sea(6, 0) = 50
                sea(7, 0) = 50 sea(8, 0) = 50 sea(9, 0) = 50 sea(10, 0) = 50 sea(11, 0) = 50 sea(12, 0) = 50 sea(13, 0) = 50
                sea(199, 0) = 50
                """);
        Script.run("Sea: a height of 0 to 99", """
                setTide(6, -1) = INVALID sea(6, 0) = 50 setTide(6, 0) = 50 sea(6, 0) = 0 setTide(6, 99) = 0 sea(6, 0) = 99
                setTide(6, 100) = INVALID sea(6, 0) = 99
                """);
    }

    private static void swells() {
        Script.run("Sea: each day has a swell that is at first 3", """
                sea(0, 1) = 3 sea(1, 1) = 3 sea(13, 1) = 3 sea(14, 1) = 3 sea(100, 1) = 3 sea(198, 1) = 3 sea(199, 1) = 3
                """);
        Script.run("Sea: each day has a swell of its own, which does not repeat", """
                setSwell(3, 7) = 3 setSwell(0, 1) = 3 sea(3, 1) = 7 sea(17, 1) = 3 sea(199, 1) = 3 sea(2, 1) = 3 sea(4, 1) = 3
                setSwell(199, 8) = 3 sea(199, 1) = 8 sea(3, 1) = 7 sea(198, 1) = 3 sea(185, 1) = 3 sea(14, 1) = 3
                """);
        Script.run("Sea: a swell of 0 to 9", """
                setSwell(6, -1) = INVALID sea(6, 1) = 3 setSwell(6, 0) = 3 sea(6, 1) = 0 setSwell(6, 9) = 0 sea(6, 1) = 9
                setSwell(6, 10) = INVALID sea(6, 1) = 9
                """);
    }

    private static void rocks() {
        Script.run("Rocks: there are at most 3 rocks", """
                count(1) = 0 addRock(0, 9, 1) = 0 addRock(0, 9, 1) = 1 count(1) = 2 addRock(0, 9, 1) = 2 count(1) = 3
                addRock(0, 9, 1) = FULL count(1) = 3 rock(2, 2) = 1 rock(3, 2) = INVALID program("rock 0 9 1;") = -1000
                undo() = 2 count(1) = 2 addRock(0, 9, 2) = 2 addRock(0, 9, 1) = FULL
                """);
        Script.run("Rocks: they are numbered from 0 in the order in which they were added", """
                addRock(10, 1, 1) = 0 addRock(20, 2, 2) = 1 addRock(5, 3, 3) = 2
                rock(0, 0) = 10 rock(1, 0) = 20 rock(2, 0) = 5 rock(0, 2) = 1 rock(1, 2) = 2 rock(2, 2) = 3
                """);
        Script.run("Rocks: a least height of 0 to 99", """
                addRock(-1, 9, 1) = INVALID addRock(100, 9, 1) = INVALID count(1) = 0 addRock(0, 9, 1) = 0 addRock(99, 9, 1) = 1
                rock(0, 0) = 0 rock(1, 0) = 99
                """);
        Script.run("Rocks: a greatest swell of 0 to 9", """
                addRock(0, -1, 1) = INVALID addRock(0, 10, 1) = INVALID count(1) = 0 addRock(0, 0, 1) = 0 addRock(0, 9, 1) = 1
                rock(0, 1) = 0 rock(1, 1) = 9
                """);
        Script.run("Rocks: 1 to 3 posts", """
                addRock(0, 9, 0) = INVALID addRock(0, 9, 4) = INVALID count(1) = 0 addRock(0, 9, 1) = 0 addRock(0, 9, 3) = 1
                rock(0, 2) = 1 rock(1, 2) = 3
                """);
    }

    private static void landings() {
        Script.run("Rocks: a landing is possible on a day whose tide is at least as high as the least height", """
                addRock(50, 9, 1) = 0 setTide(0, 49) = 50 setTide(2, 51) = 50
                landings(0, 0, 0) = 0 landings(0, 1, 1) = 1 landings(0, 2, 2) = 1 landing(0, 0) = 1 cutOff(1, 0, 0) = 1 cutOff(1, 1, 1) = 0
                bring(0, 0, 0, 1) = 1 doneOn(0) = 1 pass(1) = 1 pass(1) = 0 count(5) = 1
                """);
        Script.run("Rocks: a landing is possible on a day whose swell is not greater than the greatest one", """
                addRock(0, 3, 1) = 0 setSwell(0, 4) = 3 setSwell(2, 2) = 3
                landings(0, 0, 0) = 0 landings(0, 1, 1) = 1 landings(0, 2, 2) = 1 landing(0, 0) = 1 cutOff(1, 0, 0) = 1 cutOff(1, 1, 1) = 0
                bring(0, 0, 0, 1) = 1 doneOn(0) = 1 pass(1) = 1 pass(1) = 0 count(5) = 1
                """);
        Script.run("Rocks: both the tide and the swell have to allow a landing", """
                addRock(50, 3, 1) = 0 setTide(0, 49) = 50 setSwell(1, 4) = 3 setTide(2, 49) = 50 setSwell(2, 4) = 3
                landings(0, 0, 0) = 0 landings(0, 1, 1) = 0 landings(0, 2, 2) = 0 landing(0, 0) = 3 cutOff(1, 0, 9) = 3
                bring(0, 0, 0, 1) = 1 pass(3) = 3 pass(1) = 0
                """);
        Script.run("Rocks: the lowest tide, the highest tide and the least height", """
                addRock(0, 9, 1) = 0 addRock(99, 9, 1) = 1 addRock(1, 9, 1) = 2 setTide(0, 0) = 50 setTide(1, 99) = 50 setTide(2, 98) = 50
                landings(0, 0, 0) = 1 landings(1, 0, 0) = 0 landings(2, 0, 0) = 0 landings(1, 1, 1) = 1 landings(1, 2, 2) = 0
                landings(2, 1, 1) = 1
                """);
        Script.run("Rocks: the least swell, the greatest swell and the greatest one of a rock", """
                addRock(0, 0, 1) = 0 addRock(0, 9, 1) = 1 addRock(0, 8, 1) = 2 setSwell(0, 0) = 3 setSwell(1, 9) = 3 setSwell(2, 1) = 3
                landings(0, 0, 0) = 1 landings(1, 0, 0) = 1 landings(0, 1, 1) = 0 landings(1, 1, 1) = 1 landings(2, 1, 1) = 0
                landings(0, 2, 2) = 0
                """);
    }

    private static void stores() {
        Script.run("Stores: a rock has three stores", """
                addRock(0, 9, 1) = 0 store(0, 0, 0) = 0 store(0, 2, 0) = 0 store(0, 3, 0) = INVALID store(0, -1, 0) = INVALID
                setKeep(0, 2, 0) = 0 setKeep(0, 3, 0) = INVALID bring(0, 0, 2, 1) = 1 bring(0, 0, 3, 1) = INVALID
                lasts(0, 2) = NONE lasts(0, 3) = INVALID
                """);
        Script.run("Stores: amount and keep are 0 at first", """
                addRock(0, 9, 1) = 0 addRock(0, 9, 1) = 1 addRock(0, 9, 1) = 2
                store(0, 0, 0) = 0 store(0, 0, 1) = 0 store(0, 1, 0) = 0 store(0, 1, 1) = 0 store(0, 2, 0) = 0 store(0, 2, 1) = 0
                store(2, 0, 0) = 0 store(2, 0, 1) = 0 store(2, 1, 0) = 0 store(2, 1, 1) = 0 store(2, 2, 0) = 0 store(2, 2, 1) = 0
                store(0, 0, 2) = 0 store(0, 1, 3) = 0 store(0, 2, 4) = 0
                """);
        Script.run("Stores: an amount of at most 999", """
                program("rock 0 9 1;bring 0 0 2 300;bring 0 0 2 300;bring 0 0 2 300;bring 0 0 2 98;pass 1;") = 6 store(0, 2, 0) = 998
                bring(0, 1, 2, 1) = 1 pass(1) = 0 store(0, 2, 0) = 999 bring(0, 2, 2, 1) = 1 pass(1) = 0 store(0, 2, 0) = 999
                """);
        Script.run("Stores: an amount of at least 0", """
                program("rock 0 9 1;keeper 0;out 0 0 0;bring 0 0 0 4;pass 1;") = 5 store(0, 0, 0) = 1 pass(1) = 0 store(0, 0, 0) = 0
                pass(1) = 0 store(0, 0, 0) = 0 store(0, 1, 0) = 0
                """);
        Script.run("Stores: a keep of 0 to 999", """
                program("rock 0 9 1;bring 0 0 0 300;bring 0 0 0 300;bring 0 0 0 300;bring 0 0 0 300;pass 1;") = 6
                setKeep(0, 0, -1) = INVALID setKeep(0, 0, 1000) = INVALID setKeep(0, 0, 999) = 0 setKeep(0, 0, 0) = 999
                """);
        Script.run("Stores: a day needs nothing without keepers on the rock", """
                addRock(0, 9, 1) = 0 addRock(0, 9, 3) = 1 come(2) = 0 come(2) = 1
                store(0, 0, 5) = 0 store(0, 1, 5) = 0 store(0, 2, 5) = 0 change(1, 0, 0, 1) = 1 pass(1) = 0
                store(0, 0, 5) = 0 store(0, 1, 5) = 0 store(0, 2, 5) = 0 store(0, 0, 3) = 0 store(0, 1, 3) = 0 store(0, 2, 3) = 0
                """);
        Script.run("Stores: a day needs 3 food and 2 water for each keeper on the rock, and 5 oil if any is on it", """
                program("rock 0 9 3;keeper 0;keeper 1;keeper 2;keeper 0;out 0 0 0;out 0 1 1;out 0 2 2;pass 1;") = 9
                store(0, 0, 5) = 3 store(0, 1, 5) = 5 store(0, 2, 5) = 2 store(0, 0, 3) = 3 store(0, 1, 3) = 5 store(0, 2, 3) = 2
                pass(1) = 0
                store(0, 0, 5) = 6 store(0, 1, 5) = 5 store(0, 2, 5) = 4 store(0, 0, 3) = 9 store(0, 1, 3) = 10 store(0, 2, 3) = 6
                pass(1) = 0
                store(0, 0, 5) = 9 store(0, 1, 5) = 5 store(0, 2, 5) = 6 store(0, 0, 3) = 18 store(0, 1, 3) = 15 store(0, 2, 3) = 12
                """);
    }

    private static void keepers() {
        Script.run("Keepers: there are at most 8 keepers", """
                come(0) = 0 come(0) = 1 come(0) = 2 come(0) = 3 come(0) = 4 come(0) = 5 come(0) = 6 count(2) = 7 come(2) = 7
                count(2) = 8 come(0) = FULL count(2) = 8 keeper(7, 0) = 2 keeper(8, 0) = INVALID program("keeper 0;") = -1000
                undo() = 4 come(1) = 7 come(0) = FULL keeper(7, 0) = 1
                """);
        Script.run("Keepers: numbered from 0 in the order in which they came", """
                come(2) = 0 come(0) = 1 come(1) = 2 keeper(0, 0) = 2 keeper(1, 0) = 0 keeper(2, 0) = 1 keeper(3, 0) = INVALID
                """);
        Script.run("Keepers: a rank of 0 to 2", """
                come(-1) = INVALID come(3) = INVALID count(2) = 0 come(0) = 0 come(1) = 1 come(2) = 2
                keeper(0, 0) = 0 keeper(1, 0) = 1 keeper(2, 0) = 2
                """);
        Script.run("Keepers: a keeper is ashore at first", """
                addRock(0, 9, 3) = 0 come(0) = 0 keeper(0, 1) = NONE count(4) = 1 rock(0, 3) = 0 pass(1) = 0 come(2) = 1
                keeper(1, 1) = NONE count(4) = 2 rock(0, 3) = 0
                """);
        Script.run("Keepers: leave is 0 units at first, and so are all accounts", """
                come(2) = 0 pass(2) = 0 come(2) = 1
                keeper(1, 2) = 0 keeper(1, 3) = 0 keeper(1, 4) = 0 keeper(1, 5) = 0 keeper(1, 6) = 0 keeper(0, 6) = 2
                """);
        Script.run("Keepers: on a rock are never more keepers than its one post", """
                program("rock 0 9 1;keeper 0;keeper 0;out 0 0 0;out 0 0 1;pass 1;") = 6 rock(0, 3) = 1 count(5) = 1 count(6) = 1
                """);
        Script.run("Keepers: on a rock are never more keepers than its two posts", """
                program("rock 0 9 2;keeper 0;keeper 0;keeper 0;out 0 0 0;out 0 0 1;out 0 0 2;pass 1;") = 8 rock(0, 3) = 2 count(5) = 2
                count(6) = 1
                """);
        Script.run("Keepers: on a rock are never more keepers than its three posts", """
                program("rock 0 9 3;keeper 0;keeper 0;keeper 0;keeper 0;out 0 0 0;out 0 0 1;out 0 0 2;out 0 0 3;pass 1;") = 10
                rock(0, 3) = 3 count(5) = 3 count(6) = 1
                """);
    }

    private static void turns() {
        Script.run("Turns: there are at most 12 turns, planned by bring()", """
                addRock(0, 9, 1) = 0 bring(0, 5, 0, 1) = 1 bring(0, 5, 0, 1) = 2 bring(0, 5, 0, 1) = 3 bring(0, 5, 0, 1) = 4
                bring(0, 5, 0, 1) = 5 bring(0, 5, 0, 1) = 6 bring(0, 5, 0, 1) = 7 bring(0, 5, 0, 1) = 8 bring(0, 5, 0, 1) = 9
                bring(0, 5, 0, 1) = 10 bring(0, 5, 0, 1) = 11 bring(0, 5, 0, 7) = 12 count(3) = 12 bring(0, 5, 0, 1) = FULL count(3) = 12
                turn(11, 6) = 7 turn(12, 6) = INVALID program("bring 0 5 0 1;") = -1000 cancel(0) = 11 bring(0, 5, 0, 1) = 12
                bring(0, 5, 0, 1) = FULL
                """);
        Script.run("Turns: there are at most 12 turns, planned by change()", """
                addRock(0, 9, 1) = 0 come(0) = 0 change(0, 5, 0, 1) = 1 change(0, 5, 0, 1) = 2 change(0, 5, 0, 1) = 3
                change(0, 5, 0, 1) = 4 change(0, 5, 0, 1) = 5 change(0, 5, 0, 1) = 6 change(0, 5, 0, 1) = 7 change(0, 5, 0, 1) = 8
                change(0, 5, 0, 1) = 9 change(0, 5, 0, 1) = 10 change(0, 5, 0, 1) = 11 change(0, 5, 0, 0) = 12 change(0, 5, 0, 1) = FULL
                count(3) = 12 program("out 0 5 0;") = -1000 program("ashore 0 5 0;") = -1000
                """);
        Script.run("Turns: there are at most 12 turns, planned by relieve()", """
                addRock(0, 9, 1) = 0 come(0) = 0 come(0) = 1 relieve(0, 5, 0, 1) = 1 relieve(0, 5, 0, 1) = 2 relieve(0, 5, 0, 1) = 3
                relieve(0, 5, 0, 1) = 4 relieve(0, 5, 0, 1) = 5 relieve(0, 5, 0, 1) = 6 relieve(0, 5, 0, 1) = 7 relieve(0, 5, 0, 1) = 8
                relieve(0, 5, 0, 1) = 9 relieve(0, 5, 0, 1) = 10 relieve(0, 5, 0, 1) = 11 relieve(0, 5, 1, 0) = 12
                relieve(0, 5, 0, 1) = FULL count(3) = 12 program("relief 0 5 0 1;") = -1000
                """);
        Script.run("Turns: a turn that is missed keeps its room, and one that is removed leaves it", """
                program("rock 0 9 1;rock 99 9 1;bring 1 0 0 1;bring 0 0 0 1;bring 1 0 0 1;bring 1 0 0 1;bring 1 0 0 1;bring 1 0 0 1;") = 8
                program("bring 1 0 0 1;bring 1 0 0 1;bring 1 0 0 1;bring 1 0 0 1;bring 1 0 0 1;bring 1 0 0 1;") = 6
                bring(0, 9, 0, 1) = FULL pass(1) = 11 count(3) = 11 bring(0, 9, 0, 1) = 12 bring(0, 9, 0, 1) = FULL
                """);
        Script.run("Turns: a delivery of 1 to 300 of one store", """
                addRock(0, 9, 1) = 0 bring(0, 0, 1, 0) = INVALID bring(0, 0, 1, 301) = INVALID count(3) = 0
                bring(0, 0, 1, 1) = 1 turn(0, 6) = 1 bring(0, 1, 1, 300) = 2 turn(1, 6) = 300 pass(1) = 0 store(0, 1, 0) = 1
                pass(1) = 0 store(0, 1, 0) = 301 store(0, 0, 0) = 0 store(0, 2, 0) = 0
                """);
        Script.run("Turns: three kinds", """
                program("rock 0 9 1;keeper 0;keeper 0;relief 0 5 0 1;out 0 5 0;ashore 0 5 0;bring 0 5 0 1;") = 7
                turn(0, 0) = 0 turn(1, 0) = 1 turn(2, 0) = 1 turn(3, 0) = 2
                """);
    }

    private static void turnNumbers() {
        Script.run("Turns: in a row in the order in which they were planned, not that of their days", """
                addRock(0, 9, 1) = 0 bring(0, 9, 0, 1) = 1 bring(0, 3, 0, 2) = 2 bring(0, 199, 0, 3) = 3 bring(0, 0, 0, 4) = 4
                turn(0, 6) = 1 turn(1, 6) = 2 turn(2, 6) = 3 turn(3, 6) = 4
                """);
        Script.run("Turns: when the first one is removed the numbers of all others become smaller by 1", """
                addRock(0, 9, 1) = 0 bring(0, 5, 0, 1) = 1 bring(0, 5, 0, 2) = 2 bring(0, 5, 0, 3) = 3 cancel(0) = 2
                turn(0, 6) = 2 turn(1, 6) = 3 turn(2, 6) = INVALID
                """);
        Script.run("Turns: when one in the middle is removed the numbers of those behind become smaller by 1", """
                addRock(0, 9, 1) = 0 bring(0, 5, 0, 1) = 1 bring(0, 5, 0, 2) = 2 bring(0, 5, 0, 3) = 3 cancel(1) = 2
                turn(0, 6) = 1 turn(1, 6) = 3 turn(2, 6) = INVALID
                """);
        Script.run("Turns: when the last one is removed the others keep their numbers", """
                addRock(0, 9, 1) = 0 bring(0, 5, 0, 1) = 1 bring(0, 5, 0, 2) = 2 bring(0, 5, 0, 3) = 3 cancel(2) = 2
                turn(0, 6) = 1 turn(1, 6) = 2 turn(2, 6) = INVALID
                """);
        Script.run("Turns: the numbers become smaller too when a day removes turns of a full row", """
                program("rock 0 9 1;bring 0 5 0 1;bring 0 0 0 2;bring 0 5 0 3;bring 0 5 0 4;bring 0 0 0 5;bring 0 0 0 6;bring 0 5 0 7;") = 8
                program("bring 0 5 0 8;bring 0 5 0 9;bring 0 5 0 10;bring 0 5 0 11;bring 0 0 0 12;pass 1;") = 6 count(3) = 8
                turn(0, 6) = 1 turn(1, 6) = 3 turn(2, 6) = 4 turn(3, 6) = 7 turn(4, 6) = 8 turn(5, 6) = 9 turn(6, 6) = 10 turn(7, 6) = 11
                turn(8, 6) = INVALID store(0, 0, 0) = 25
                """);
    }

    private static void errors() {
        Script.run("Errors: a refused call changes nothing on a full object", """
                program("rock 0 9 3;rock 0 3 2;rock 99 9 1;keeper 0;keeper 1;keeper 2;out 0 0 0;out 0 0 1;pass 1;keeper 2;") = 10
                program("keeper 1;keeper 0;keeper 0;keeper 0;relief 0 1 0 2;bring 2 1 0 9;swell 2 9;relief 1 2 3 4;") = 8
                program("bring 2 1 0 9;bring 2 1 0 9;bring 2 1 0 9;bring 2 1 0 9;bring 2 1 0 9;relief 0 9 2 3;") = 6
                take(0) = 1 take(1) = 1 type("keeper 3;") = 9
                addRock(0, 9, 1) = FULL come(0) = FULL setTide(14, 0) = INVALID setSwell(0, 3) = ILLEGAL setKeep(0, 0, 1) = ILLEGAL
                relieve(0, 0, 0, 1) = ILLEGAL change(0, 0, 0, 1) = ILLEGAL bring(0, 0, 0, 1) = ILLEGAL cancel(9) = INVALID
                exchange(0, 1) = ILLEGAL exchange(0, 8) = ILLEGAL pass(61) = INVALID take(2) = INVALID restore(2) = INVALID
                append(256) = INVALID run() = -1000 later(0, 61, 0) = INVALID doneOn(9) = INVALID
                """);
        Script.run("Errors: NONE is returned only if no error condition applies", """
                addRock(99, 9, 1) = 0 come(0) = 0 bring(0, 0, 0, 1) = 1
                rock(0, 6) = NONE rock(1, 6) = INVALID keeper(0, 1) = NONE keeper(1, 1) = INVALID turn(0, 3) = NONE turn(1, 3) = INVALID
                landing(0, 0) = NONE landing(0, 200) = INVALID landing(1, 0) = INVALID lasts(0, 0) = NONE lasts(0, 3) = INVALID
                lasts(1, 0) = INVALID doneOn(0) = NONE doneOn(1) = INVALID later(0, 60, 1) = NONE later(0, 61, 1) = INVALID
                pass(60) = 60 pass(60) = 60 pass(60) = 60 later(0, 19, 1) = NONE later(0, 20, 1) = ILLEGAL
                """);
        Script.run("Errors: NONE is no error: an account that is NONE is answered", """
                addRock(99, 9, 1) = 0 come(0) = 0 nextIn() = NONE keeper(0, 1) = NONE later(0, 0, 1) = NONE count(9) = 2
                """);
    }

    private static void lifeOfAnObject() {
        Script.run("What it is: the first call", "run() = 0");
        RockWatches taken = new RockWatches();
        for (int call = 1; call < 512; call++) {
            Script.check("What it is: call " + call + " of take", taken.take(call % 2) == 0);
        }
        Script.check("What it is: the 512th call, behind 511 snapshots", taken.count(9) == 5);
        RockWatches passed = new RockWatches();
        for (int call = 1; call < 200; call++) {
            Script.check("What it is: day " + call, passed.pass(1) == 0);
        }
        for (int call = 200; call < 512; call++) {
            Script.check("What it is: call " + call + " on the last day", passed.pass(1) == -2);
        }
        Script.check("What it is: the 512th call, on the last day", passed.count(0) == 199);
    }
}
