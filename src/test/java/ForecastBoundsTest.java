/** The boundary cases of promises 25 to 32, a run for each sentence. */
public final class ForecastBoundsTest {
    private ForecastBoundsTest() {
    }

    public static void main(String[] arguments) {
        landing();
        landings();
        cutOff();
        cutOffDays();
        lasts();
        doneOn();
        doneOrNot();
        later();
        laterAccounts();
        nextOut();
        nextIn();
        changeNothing();
        Script.finish();
    }

    private static void landing() {
        Script.run("promise 25, rock: a rock, and there is none", "landing(0, 0) = INVALID landing(-1, 0) = INVALID");
        Script.run("promise 25, rock: a rock, and there are one and three", """
                addRock(0, 9, 1) = 0 landing(-1, 0) = INVALID landing(1, 0) = INVALID landing(0, 0) = 0 addRock(99, 9, 1) = 1
                addRock(0, 0, 1) = 2 setSwell(7, 0) = 3 landing(0, 0) = 0 landing(1, 0) = NONE landing(2, 0) = 7 landing(3, 0) = INVALID
                landing(NONE, 0) = INVALID landing(MIN, 0) = INVALID landing(MAX, 0) = INVALID
                """);
        Script.run("promise 25, from: 0 to 199", """
                addRock(0, 9, 1) = 0 landing(0, -1) = INVALID landing(0, 200) = INVALID landing(0, MIN) = INVALID landing(0, MAX) = INVALID
                landing(0, 0) = 0 landing(0, 199) = 199
                """);
        Script.run("promise 25: from a day on, this day too, not one before", """
                addRock(0, 2, 1) = 0 setSwell(9, 2) = 3 setSwell(20, 2) = 3 landing(0, 8) = 9 landing(0, 9) = 9 landing(0, 10) = 20
                """);
        Script.run("promise 25: up to day 199, this day too", """
                addRock(0, 2, 1) = 0 landing(0, 0) = NONE setSwell(199, 2) = 3 landing(0, 0) = 199 landing(0, 198) = 199 landing(0, 199) = 199
                """);
        Script.run("promise 25: NONE if there is none up to day 199", """
                addRock(0, 2, 1) = 0 setSwell(198, 2) = 3 landing(0, 198) = 198 landing(0, 199) = NONE setSwell(198, 3) = 2 landing(0, 0) = NONE
                """);
        Script.run("promise 25: INVALID_ARGUMENT comes before NONE", "addRock(99, 9, 1) = 0 landing(0, 0) = NONE landing(0, 200) = INVALID landing(1, 0) = INVALID");
        Script.run("promise 25: days that have passed, on the last day", """
                addRock(0, 9, 1) = 0 pass(60) = 0 pass(60) = 0 pass(60) = 0 pass(19) = 0 landing(0, 0) = 0 landing(0, 199) = 199
                """);
    }

    private static void landings() {
        Script.run("promise 26, rock: a rock, and there is none", "landings(0, 0, 0) = INVALID landings(-1, 0, 0) = INVALID");
        Script.run("promise 26, rock: a rock, and there are one and three", """
                addRock(0, 9, 1) = 0 landings(-1, 0, 0) = INVALID landings(1, 0, 0) = INVALID landings(0, 0, 9) = 10 addRock(99, 9, 1) = 1
                addRock(0, 0, 1) = 2 setSwell(7, 0) = 3 landings(0, 0, 9) = 10 landings(1, 0, 9) = 0 landings(2, 0, 9) = 1
                landings(3, 0, 9) = INVALID landings(MIN, 0, 9) = INVALID landings(MAX, 0, 9) = INVALID
                """);
        Script.run("promise 26, from: 0 to 199, the first day", """
                addRock(0, 9, 1) = 0 landings(0, -1, 5) = INVALID landings(0, 200, 200) = INVALID landings(0, 200, 199) = INVALID
                landings(0, MIN, 5) = INVALID landings(0, MAX, MAX) = INVALID landings(0, 0, 5) = 6 landings(0, 199, 199) = 1
                """);
        Script.run("promise 26, to: from to 199, the last day", """
                addRock(0, 9, 1) = 0 landings(0, 5, 4) = INVALID landings(0, 5, 5) = 1 landings(0, 5, 6) = 2 landings(0, 5, 199) = 195
                landings(0, 5, 200) = INVALID landings(0, 5, 0) = INVALID landings(0, 5, -1) = INVALID landings(0, 0, -1) = INVALID
                landings(0, 5, MIN) = INVALID landings(0, 5, MAX) = INVALID landings(0, 199, 198) = INVALID
                """);
        Script.run("promise 26: the first and the last day are counted, those beside them are not", """
                addRock(0, 2, 1) = 0 setSwell(5, 2) = 3 setSwell(9, 2) = 3 landings(0, 5, 9) = 2 landings(0, 6, 9) = 1 landings(0, 5, 8) = 1
                landings(0, 6, 8) = 0 landings(0, 4, 10) = 2
                """);
        Script.run("promise 26: no day and all days", """
                addRock(51, 9, 1) = 0 addRock(50, 3, 1) = 1 landings(0, 0, 199) = 0 landings(0, 0, 0) = 0 landings(1, 0, 199) = 200
                """);
    }

    private static void cutOff() {
        Script.run("promise 27, rocks: at least 1, and there have to be these rocks, of none", """
                cutOff(0, 0, 0) = INVALID cutOff(1, 0, 0) = INVALID cutOff(-1, 0, 0) = INVALID cutOff(7, 0, 0) = INVALID
                """);
        Script.run("promise 27, rocks: at least 1, and there have to be these rocks, of one", """
                addRock(0, 9, 1) = 0 cutOff(0, 0, 0) = INVALID cutOff(1, 0, 0) = 0 cutOff(2, 0, 0) = INVALID cutOff(3, 0, 0) = INVALID
                cutOff(4, 0, 0) = INVALID cutOff(5, 0, 0) = INVALID cutOff(7, 0, 0) = INVALID cutOff(-1, 0, 0) = INVALID
                """);
        Script.run("promise 27, rocks: at least 1, and there have to be these rocks, of two", """
                addRock(0, 9, 1) = 0 addRock(99, 9, 1) = 1 cutOff(0, 0, 0) = INVALID cutOff(1, 0, 0) = 0 cutOff(2, 0, 0) = 1
                cutOff(3, 0, 0) = 0 cutOff(4, 0, 0) = INVALID cutOff(5, 0, 0) = INVALID cutOff(6, 0, 0) = INVALID cutOff(7, 0, 0) = INVALID
                """);
        Script.run("promise 27, rocks: at least 1, and there have to be these rocks, of three", """
                addRock(0, 9, 1) = 0 addRock(99, 9, 1) = 1 addRock(98, 9, 1) = 2 cutOff(0, 0, 0) = INVALID cutOff(1, 0, 0) = 0
                cutOff(2, 0, 0) = 1 cutOff(4, 0, 0) = 1 cutOff(5, 0, 0) = 0 cutOff(6, 0, 0) = 1 cutOff(7, 0, 0) = 0 cutOff(8, 0, 0) = INVALID
                cutOff(9, 0, 0) = INVALID cutOff(-1, 0, 0) = INVALID cutOff(MIN, 0, 0) = INVALID cutOff(MAX, 0, 0) = INVALID
                """);
        Script.run("promise 27, rocks: 1 for rock 0, 2 for rock 1 and 4 for rock 2", """
                addRock(0, 0, 1) = 0 addRock(0, 1, 1) = 1 addRock(0, 2, 1) = 2 setSwell(2, 0) = 3 setSwell(5, 1) = 3 setSwell(9, 2) = 3
                cutOff(1, 0, 9) = 7 cutOff(2, 0, 9) = 4 cutOff(3, 0, 9) = 4 cutOff(4, 0, 9) = 3 cutOff(5, 0, 9) = 3 cutOff(7, 0, 9) = 3
                """);
        Script.run("promise 27, rocks: a landing on any rock of the set, not of the others", """
                addRock(99, 9, 1) = 0 addRock(98, 9, 1) = 1 addRock(97, 9, 1) = 2 setTide(1, 97) = 50 cutOff(3, 0, 9) = 10
                cutOff(6, 0, 9) = 8 setTide(5, 99) = 50 cutOff(1, 0, 9) = 5 cutOff(3, 0, 9) = 5 cutOff(7, 0, 9) = 4
                """);
    }

    private static void cutOffDays() {
        Script.run("promise 27, from: 0 to 199, the first day", """
                addRock(99, 9, 1) = 0 cutOff(1, -1, 5) = INVALID cutOff(1, 200, 200) = INVALID cutOff(1, 200, 199) = INVALID
                cutOff(1, MIN, 5) = INVALID cutOff(1, MAX, MAX) = INVALID cutOff(1, 0, 5) = 6 cutOff(1, 199, 199) = 1
                """);
        Script.run("promise 27, to: from to 199, the last day", """
                addRock(99, 9, 1) = 0 cutOff(1, 5, 4) = INVALID cutOff(1, 5, 5) = 1 cutOff(1, 5, 6) = 2 cutOff(1, 5, 199) = 195
                cutOff(1, 5, 200) = INVALID cutOff(1, 5, 0) = INVALID cutOff(1, 0, -1) = INVALID cutOff(1, 5, MIN) = INVALID
                cutOff(1, 5, MAX) = INVALID cutOff(1, 199, 198) = INVALID
                """);
        Script.run("promise 27: 0 if there is no such day", """
                addRock(0, 9, 1) = 0 addRock(99, 9, 1) = 1 cutOff(1, 0, 199) = 0 cutOff(1, 7, 7) = 0 cutOff(3, 0, 199) = 0
                """);
        Script.run("promise 27: all days", "addRock(99, 9, 1) = 0 cutOff(1, 0, 199) = 200");
        Script.run("promise 27: all of them from the first to the last one, at the beginning, in the middle and at the end", """
                addRock(0, 3, 1) = 0 setSwell(0, 9) = 3 setSwell(1, 9) = 3 setSwell(100, 9) = 3 setSwell(101, 9) = 3 setSwell(102, 9) = 3
                setSwell(196, 9) = 3 setSwell(197, 9) = 3 setSwell(198, 9) = 3 setSwell(199, 9) = 3
                cutOff(1, 0, 99) = 2 cutOff(1, 1, 99) = 1 cutOff(1, 2, 99) = 0 cutOff(1, 0, 101) = 2 cutOff(1, 0, 195) = 3
                cutOff(1, 101, 196) = 2 cutOff(1, 0, 199) = 4 cutOff(1, 0, 198) = 3 cutOff(1, 198, 199) = 2 cutOff(1, 103, 195) = 0
                """);
        Script.run("promise 27: one right behind the other, a landing between them divides", """
                addRock(0, 2, 1) = 0 setSwell(3, 2) = 3 cutOff(1, 0, 6) = 3 cutOff(1, 0, 7) = 4 setSwell(3, 3) = 2 cutOff(1, 0, 6) = 7
                """);
    }

    private static void lasts() {
        Script.run("promise 28, rock: a rock, and there is none", "lasts(0, 0) = INVALID lasts(-1, 0) = INVALID lasts(0, 3) = INVALID");
        Script.run("promise 28, rock: a rock, and there are one and three", """
                addRock(0, 9, 1) = 0 lasts(-1, 0) = INVALID lasts(1, 0) = INVALID lasts(0, 0) = NONE
                program("rock 0 9 1;rock 0 9 1;keeper 0;out 2 0 0;bring 2 0 0 10;pass 1;") = 6 lasts(2, 0) = 2 lasts(1, 0) = NONE
                lasts(3, 0) = INVALID lasts(MIN, 0) = INVALID lasts(MAX, 0) = INVALID
                """);
        Script.run("promise 28, store: 0 to 2", """
                program("rock 0 9 1;keeper 0;out 0 0 0;bring 0 0 0 33;bring 0 0 1 35;bring 0 0 2 82;pass 1;") = 7 lasts(0, -1) = INVALID
                lasts(0, 3) = INVALID lasts(0, MIN) = INVALID lasts(0, MAX) = INVALID lasts(0, 0) = 10 lasts(0, 1) = 6 lasts(0, 2) = 40
                """);
        Script.run("promise 28: the number of days in which nothing would be lacking, of food", """
                program("rock 0 9 2;keeper 0;keeper 0;out 0 0 0;out 0 0 1;bring 0 0 0 18;pass 1;") = 7 lasts(0, 0) = 2 setKeep(0, 0, 1) = 0
                lasts(0, 0) = 1 setKeep(0, 0, 6) = 1 lasts(0, 0) = 1 setKeep(0, 0, 7) = 6 lasts(0, 0) = 0 setKeep(0, 0, 12) = 7 lasts(0, 0) = 0
                setKeep(0, 0, 0) = 12 pass(2) = 0 store(0, 0, 3) = 0 lasts(0, 0) = 0 pass(1) = 0 store(0, 0, 3) = 6
                """);
        Script.run("promise 28: the number of days in which nothing would be lacking, of oil, for one keeper and for three", """
                program("rock 0 9 3;keeper 0;keeper 0;keeper 0;out 0 0 0;bring 0 0 1 20;pass 1;") = 7 lasts(0, 1) = 3
                program("out 0 1 1;out 0 1 2;pass 1;") = 3 lasts(0, 1) = 2 setKeep(0, 1, 1) = 0 lasts(0, 1) = 1
                """);
        Script.run("promise 28: the number of days in which nothing would be lacking, of water", """
                program("rock 0 9 3;keeper 0;keeper 0;keeper 0;out 0 0 0;bring 0 0 2 14;pass 1;") = 7 lasts(0, 2) = 6 setKeep(0, 2, 1) = 0
                lasts(0, 2) = 5 program("out 0 1 1;out 0 1 2;pass 1;") = 3 lasts(0, 2) = 0 setKeep(0, 2, 0) = 1 lasts(0, 2) = 1
                """);
        Script.run("promise 28: an empty store is enough for 0 days", "program(\"rock 0 9 1;keeper 0;out 0 0 0;pass 1;\") = 4 lasts(0, 0) = 0 lasts(0, 1) = 0 lasts(0, 2) = 0");
        Script.run("promise 28: a full store, down to the smallest and the greatest keep", """
                program("rock 0 9 1;keeper 0;bring 0 0 2 300;bring 0 0 2 300;bring 0 0 2 300;bring 0 0 2 300;out 0 1 0;pass 2;") = 8
                lasts(0, 2) = 498 bring(0, 2, 2, 4) = 1 setKeep(0, 2, 997) = 0 lasts(0, 2) = 0 setKeep(0, 2, 995) = 997 lasts(0, 2) = 1
                """);
        Script.run("promise 28: NONE if a day needs nothing of it", """
                program("rock 0 9 1;rock 0 9 1;keeper 0;bring 0 0 0 9;bring 0 0 1 9;bring 0 0 2 9;out 1 0 0;pass 1;") = 8
                lasts(0, 0) = NONE lasts(0, 1) = NONE lasts(0, 2) = NONE lasts(1, 0) = 0
                """);
        Script.run("promise 28: if nothing is delivered and the same number of keepers stays, whatever is planned", """
                program("rock 0 9 2;keeper 0;keeper 0;out 0 0 0;bring 0 0 0 12;pass 1;bring 0 1 0 9;out 0 1 1;ashore 0 2 0;") = 9 lasts(0, 0) = 3
                """);
        Script.run("promise 28: longer than there are days, on the last day", """
                program("rock 0 9 1;keeper 0;bring 0 0 0 300;out 0 198 0;pass 60;pass 60;pass 60;pass 19;") = 8 lasts(0, 0) = 99
                """);
        Script.run("promise 28: INVALID_ARGUMENT comes before NONE", "addRock(0, 9, 1) = 0 lasts(0, 0) = NONE lasts(0, 3) = INVALID lasts(1, 0) = INVALID");
    }

    private static void doneOn() {
        Script.run("promise 29, turn: its number, in an empty row", "doneOn(0) = INVALID doneOn(-1) = INVALID");
        Script.run("promise 29, turn: its number, in a row of one and in a full one", """
                program("rock 0 9 1;bring 0 4 0 1;") = 2 doneOn(0) = 4 doneOn(1) = INVALID doneOn(-1) = INVALID
                program("bring 0 9 0 1;bring 0 9 0 1;bring 0 9 0 1;bring 0 9 0 1;bring 0 9 0 1;bring 0 9 0 1;bring 0 9 0 1;") = 7
                program("bring 0 9 0 1;bring 0 9 0 1;bring 0 9 0 1;bring 0 5 0 1;") = 4 doneOn(11) = 5 doneOn(12) = INVALID doneOn(0) = 4
                doneOn(MIN) = INVALID doneOn(MAX) = INVALID
                """);
        Script.run("promise 29: the day on which it is done, today the first one", """
                program("rock 0 9 1;bring 0 0 0 1;") = 2 doneOn(0) = 0
                """);
        Script.run("promise 29: the day on which it is done, 198 the last one", """
                program("rock 0 9 1;bring 0 198 0 1;bring 0 199 0 1;") = 3 doneOn(0) = 198 doneOn(1) = NONE
                """);
        Script.run("promise 29: done on 198, behind all the days on which it is missed", """
                program("rock 0 2 1;bring 0 0 0 1;") = 2 doneOn(0) = NONE setSwell(198, 2) = 3 doneOn(0) = 198 setSwell(198, 3) = 2
                setSwell(199, 2) = 3 doneOn(0) = NONE
                """);
        Script.run("promise 29: NONE if it is still in the row when day 199 is today", """
                program("rock 0 9 1;bring 0 199 0 1;") = 2 doneOn(0) = NONE program("pass 60;pass 60;pass 60;pass 18;bring 0 198 0 1;") = 5
                doneOn(0) = NONE doneOn(1) = 198 pass(1) = 0 doneOn(0) = NONE doneOn(1) = INVALID
                """);
    }

    private static void doneOrNot() {
        Script.run("promise 29: NONE if it is dropped", """
                program("rock 0 9 1;keeper 0;keeper 0;ashore 0 3 0;out 0 4 0;out 0 5 1;relief 0 6 1 0;relief 0 7 0 1;") = 8
                doneOn(0) = NONE doneOn(1) = 4 doneOn(2) = NONE doneOn(3) = NONE doneOn(4) = 7
                """);
        Script.run("promise 29: if days pass as they are planned, by the turns before it in the row and those of other days", """
                program("rock 0 3 1;rock 0 3 1;keeper 0;keeper 0;out 1 5 0;out 0 5 0;ashore 0 9 0;out 1 9 0;out 1 9 1;") = 9
                doneOn(0) = 5 doneOn(1) = NONE doneOn(2) = NONE doneOn(3) = NONE doneOn(4) = NONE cancel(0) = 4 doneOn(0) = 5
                doneOn(1) = 9 doneOn(2) = 9 doneOn(3) = NONE
                """);
        Script.run("promise 29: missed until a landing is possible, behind the turns that are missed before it", """
                program("rock 0 3 1;keeper 0;keeper 0;swell 5 9;swell 6 9;out 0 5 0;out 0 6 1;ashore 0 7 0;out 0 7 1;") = 9
                doneOn(0) = 7 doneOn(1) = NONE doneOn(2) = 7 doneOn(3) = 7
                """);
        Script.run("promise 29: each of two turns that are alike", """
                program("rock 0 9 1;keeper 0;bring 0 3 0 1;bring 0 3 0 1;out 0 3 0;out 0 3 0;") = 6 doneOn(0) = 3 doneOn(1) = 3 doneOn(2) = 3
                doneOn(3) = NONE
                """);
        Script.run("promise 29: a turn that was missed already", """
                program("rock 0 2 1;bring 0 0 0 1;pass 3;swell 9 2;") = 4 doneOn(0) = 9 turn(0, 2) = 3
                """);
    }

    private static void later() {
        Script.run("promise 30, keeper: a keeper, and there is none", "later(0, 0, 0) = INVALID later(-1, 0, 0) = INVALID later(0, 1, 6) = INVALID");
        Script.run("promise 30, keeper: a keeper, and there are one and eight", """
                come(2) = 0 later(0, 1, 0) = 2 later(1, 1, 0) = INVALID later(-1, 1, 0) = INVALID later(NONE, 1, 0) = INVALID
                program("keeper 0;keeper 0;keeper 0;keeper 0;keeper 0;keeper 0;keeper 1;") = 7 later(7, 1, 0) = 1 later(8, 1, 0) = INVALID
                later(MIN, 1, 0) = INVALID later(MAX, 1, 0) = INVALID
                """);
        Script.run("promise 30, days: 0 to 60", """
                come(0) = 0 later(0, -1, 6) = INVALID later(0, 61, 6) = INVALID later(0, MIN, 6) = INVALID later(0, MAX, 6) = INVALID
                later(0, 0, 6) = 0 later(0, 1, 6) = 1 later(0, 60, 6) = 60
                """);
        Script.run("promise 30, what: as for keeper()", """
                come(2) = 0 later(0, 1, -1) = INVALID later(0, 1, 7) = INVALID later(0, 1, MIN) = INVALID later(0, 1, MAX) = INVALID
                later(0, 1, 0) = 2 later(0, 1, 1) = NONE later(0, 1, 2) = 0 later(0, 1, 3) = 0 later(0, 1, 4) = 0 later(0, 1, 5) = 0
                later(0, 1, 6) = 1
                """);
        Script.run("promise 30: ILLEGAL_STATE if today would be later than day 199", """
                come(0) = 0 pass(60) = 0 pass(60) = 0 pass(20) = 0 later(0, 59, 6) = 199 later(0, 60, 6) = ILLEGAL pass(58) = 0
                later(0, 1, 6) = 199 later(0, 2, 6) = ILLEGAL pass(1) = 0 later(0, 0, 6) = 199 later(0, 1, 6) = ILLEGAL later(0, 60, 6) = ILLEGAL
                """);
        Script.run("promise 30: 60 days up to day 199", "come(0) = 0 pass(60) = 0 pass(60) = 0 pass(19) = 0 later(0, 60, 6) = 199");
        Script.run("promise 30: INVALID_ARGUMENT comes before ILLEGAL_STATE", """
                come(0) = 0 pass(60) = 0 pass(60) = 0 pass(60) = 0 pass(19) = 0 later(0, 61, 6) = INVALID later(1, 1, 6) = INVALID
                later(0, 1, 7) = INVALID later(-1, 60, 0) = INVALID later(0, 1, -1) = INVALID later(0, -1, 0) = INVALID later(0, 1, 6) = ILLEGAL
                """);
    }

    private static void laterAccounts() {
        Script.run("promise 30: the property behind these days, each account", """
                program("rock 0 3 1;keeper 2;out 0 1 0;swell 3 9;bring 0 3 0 1;ashore 0 5 0;") = 6
                later(0, 8, 0) = 2 later(0, 8, 1) = NONE later(0, 8, 2) = 3 later(0, 8, 3) = 4 later(0, 8, 4) = 1 later(0, 8, 5) = 3
                later(0, 8, 6) = 1 later(0, 1, 1) = NONE later(0, 2, 1) = 0 later(0, 5, 1) = 0 later(0, 6, 1) = NONE
                later(0, 3, 2) = 6 later(0, 4, 2) = 12 later(0, 5, 2) = 15 later(0, 6, 2) = 11
                """);
        Script.run("promise 30: behind no days it is what it is", """
                program("rock 0 9 1;keeper 2;out 0 0 0;pass 2;") = 4 later(0, 0, 0) = 2 later(0, 0, 1) = 0 later(0, 0, 2) = 6
                later(0, 0, 3) = 2 later(0, 0, 4) = 0 later(0, 0, 5) = 0 later(0, 0, 6) = 0
                """);
        Script.run("promise 30: as pass() makes it, for the greatest number of days", """
                program("rock 0 3 1;keeper 1;keeper 2;out 0 5 0;swell 20 9;swell 21 9;relief 0 20 0 1;ashore 0 50 1;") = 8
                later(0, 60, 2) = 2 later(0, 60, 3) = 17 later(0, 60, 5) = 9 later(1, 60, 2) = 44 later(1, 60, 3) = 28 later(1, 60, 6) = 22
                pass(60) = 2 keeper(0, 2) = 2 keeper(0, 3) = 17 keeper(0, 5) = 9 keeper(1, 2) = 44 keeper(1, 3) = 28 keeper(1, 6) = 22
                """);
    }

    private static void nextOut() {
        Script.run("promise 31: NONE if there is none, without keepers", "nextOut() = NONE addRock(0, 9, 1) = 0 nextOut() = NONE");
        Script.run("promise 31: NONE if there is none, since all are on rocks", """
                program("rock 0 9 2;keeper 0;keeper 0;out 0 0 0;out 0 0 1;pass 1;") = 6 nextOut() = NONE
                """);
        Script.run("promise 31: NONE if there is none, since all go out by a turn", """
                program("rock 0 9 2;keeper 0;keeper 0;keeper 0;out 0 199 0;relief 0 199 2 1;relief 0 5 0 2;") = 7 nextOut() = NONE cancel(1) = 2
                nextOut() = 1
                """);
        Script.run("promise 31: one who comes ashore by a turn may go out", "program(\"rock 0 9 2;keeper 0;ashore 0 199 0;\") = 3 nextOut() = 0");
        Script.run("promise 31: the one with the fewest days out, whatever the rank", """
                program("rock 0 9 2;keeper 2;keeper 0;out 0 0 0;ashore 0 1 0;pass 2;") = 6 keeper(0, 3) = 1 nextOut() = 1
                """);
        Script.run("promise 31: one day out less is fewer, though the number is greater", """
                program("rock 0 9 2;keeper 1;keeper 1;out 0 0 0;out 0 1 1;ashore 0 2 0;ashore 0 2 1;pass 3;") = 8 keeper(0, 3) = 2
                keeper(1, 3) = 1 nextOut() = 1
                """);
        Script.run("promise 31: of several the one of the highest rank", """
                come(0) = 0 nextOut() = 0 come(1) = 1 nextOut() = 1 come(2) = 2 nextOut() = 2
                """);
        Script.run("promise 31: of several of the highest rank the one with the smallest number", """
                come(0) = 0 come(1) = 1 come(1) = 2 nextOut() = 1 come(2) = 3 come(2) = 4 come(2) = 5 come(2) = 6 come(2) = 7 nextOut() = 3
                """);
        Script.run("promise 31: the first one of a full number", "program(\"keeper 0;keeper 0;keeper 0;keeper 0;keeper 0;keeper 0;keeper 0;keeper 0;\") = 8 nextOut() = 0");
        Script.run("promise 31: the last one of a full number", "program(\"keeper 1;keeper 0;keeper 0;keeper 0;keeper 0;keeper 0;keeper 0;keeper 2;\") = 8 nextOut() = 7");
    }

    private static void nextIn() {
        Script.run("promise 32: NONE if there is none, without keepers", "nextIn() = NONE addRock(0, 9, 1) = 0 nextIn() = NONE");
        Script.run("promise 32: NONE if there is none, since all are ashore", "program(\"rock 0 9 2;keeper 2;out 0 0 0;ashore 0 1 0;pass 2;\") = 5 nextIn() = NONE");
        Script.run("promise 32: NONE if there is none, since all come ashore by a turn", """
                program("rock 0 9 2;keeper 0;keeper 0;keeper 0;out 0 0 0;out 0 0 1;pass 1;ashore 0 199 0;relief 0 199 1 2;") = 9
                nextIn() = NONE cancel(1) = 1 nextIn() = 1
                """);
        Script.run("promise 32: one who comes ashore by a turn for another rock does come ashore by a turn", """
                program("rock 0 9 2;rock 0 9 1;keeper 0;out 0 0 0;pass 1;ashore 1 199 0;") = 6 nextIn() = NONE
                """);
        Script.run("promise 32: one who goes out by a turn may come ashore", """
                program("rock 0 9 2;keeper 0;keeper 0;out 0 0 0;pass 1;out 0 199 0;relief 0 199 1 0;") = 7 nextIn() = 0
                """);
        Script.run("promise 32: the one to whom the most units are owed, by one unit", """
                program("rock 0 9 2;keeper 1;keeper 2;out 0 0 0;out 0 0 1;pass 1;") = 6 keeper(0, 2) = 2 keeper(1, 2) = 3 nextIn() = 1
                """);
        Script.run("promise 32: the most units, though another one has more doubled days and a smaller number", """
                program("rock 0 3 1;rock 0 9 1;keeper 0;keeper 1;out 0 0 0;out 1 0 1;swell 1 9;bring 0 1 0 1;pass 2;") = 9 keeper(0, 4) = 1
                keeper(1, 4) = 0 nextIn() = 1
                """);
        Script.run("promise 32: of several the one with the most doubled days, though the number is greater", """
                program("rock 0 3 1;rock 0 9 1;keeper 0;keeper 0;out 1 0 0;out 0 0 1;swell 1 9;bring 0 1 0 1;pass 2;") = 9 keeper(0, 4) = 0
                keeper(1, 4) = 1 nextIn() = 1
                """);
        Script.run("promise 32: of several the one with the smallest number", """
                program("rock 0 9 3;keeper 0;keeper 1;keeper 1;keeper 1;out 0 0 3;out 0 0 1;out 0 0 2;pass 1;") = 9 nextIn() = 1
                change(0, 9, 1, 0) = 1 nextIn() = 2 change(0, 9, 2, 0) = 2 nextIn() = 3
                """);
        Script.run("promise 32: of several the one with the smallest number, without units", """
                program("rock 0 9 2;keeper 0;keeper 0;out 0 0 0;out 0 0 1;pass 9;") = 6 nextIn() = 0
                """);
        Script.run("promise 32: the last one of a full number", """
                program("rock 0 9 1;keeper 2;keeper 0;keeper 0;keeper 0;keeper 0;keeper 0;keeper 0;keeper 0;out 0 0 7;pass 1;") = 11 nextIn() = 7
                """);
    }

    /** Each forecast between two looks at what it lets pass. */
    private static void changeNothing() {
        String looks = """
                count(0) = 1 count(3) = 4 count(5) = 2 count(6) = 0 count(7) = 0 count(9) = 1 turn(0, 2) = 3 turn(1, 2) = 4 keeper(0, 1) = 0
                keeper(0, 2) = 3 keeper(0, 3) = 1 keeper(1, 6) = 1 store(0, 0, 0) = 47 store(0, 0, 2) = 3 rock(0, 5) = 0 rock(0, 4) = 4
                """;
        String[] forecasts = {"landing(0, 3) = 4", "landings(0, 0, 9) = 9", "cutOff(1, 0, 9) = 1", "lasts(0, 0) = 15", "doneOn(0) = 4",
            "doneOn(3) = NONE", "later(0, 60, 2) = 3", "nextOut() = NONE", "nextIn() = NONE"};
        for (String forecast : forecasts) {
            Script.run("forecasts, which change nothing: " + forecast, """
                    program("rock 0 3 1;keeper 2;keeper 1;out 0 0 0;bring 0 0 0 50;bring 0 3 1 9;relief 0 4 0 1;bring 0 3 2 9;out 0 5 0;swell 3 9;pass 1;") = 11
                    """ + looks + forecast + "\n" + looks + forecast + "\n" + looks);
        }
    }
}
