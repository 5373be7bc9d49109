/** Promises 25 to 32: forecasts, which change nothing. */
public final class ForecastsTest {
    private ForecastsTest() {
    }

    public static void main(String[] arguments) {
        promise25();
        promise26();
        promise27();
        promise28();
        promise29();
        promise30();
        promise31();
        promise32();
        Script.finish();
    }

    private static void promise25() {
        Script.run("promise 25: landing", """
                landing(0, 0) = INVALID addRock(50, 3, 1) = 0 addRock(51, 3, 1) = 1 addRock(0, 2, 1) = 2
                landing(0, 0) = 0 landing(0, 199) = 199 landing(1, 0) = NONE landing(2, 0) = NONE landing(2, 199) = NONE
                setTide(3, 51) = 50 landing(1, 0) = 3 landing(1, 3) = 3 landing(1, 4) = 17 landing(1, 199) = 199
                setTide(3, 50) = 51 setTide(2, 99) = 50 landing(1, 198) = 198 landing(1, 199) = NONE
                setSwell(199, 2) = 3 landing(2, 0) = 199 setSwell(100, 0) = 3 landing(2, 0) = 100 landing(2, 101) = 199
                setSwell(2, 4) = 3 landing(1, 0) = 16 pass(20) = 0 landing(1, 0) = 16 landing(0, 1) = 1
                landing(-1, 0) = INVALID landing(3, 0) = INVALID landing(0, -1) = INVALID landing(0, 200) = INVALID
                landing(MAX, 0) = INVALID landing(0, MIN) = INVALID landing(0, MAX) = INVALID
                """);
    }

    private static void promise26() {
        Script.run("promise 26: landings", """
                landings(0, 0, 0) = INVALID addRock(50, 3, 1) = 0 addRock(51, 3, 1) = 1
                landings(0, 0, 199) = 200 landings(0, 0, 0) = 1 landings(0, 199, 199) = 1 landings(1, 0, 199) = 0
                setTide(3, 51) = 50 landings(1, 0, 199) = 15 landings(1, 0, 198) = 14 landings(1, 4, 16) = 0
                landings(1, 3, 17) = 2 landings(1, 4, 17) = 1 landings(1, 3, 3) = 1 setSwell(17, 9) = 3 landings(1, 3, 17) = 1
                landings(0, 16, 18) = 2 pass(30) = 0 landings(0, 0, 199) = 199
                landings(0, 5, 4) = INVALID landings(0, 0, -1) = INVALID landings(0, -1, 5) = INVALID landings(0, 0, 200) = INVALID
                landings(0, 200, 200) = INVALID landings(-1, 0, 0) = INVALID landings(2, 0, 0) = INVALID
                landings(0, MIN, MAX) = INVALID landings(0, 0, MAX) = INVALID landings(MIN, 0, 0) = INVALID
                """);
    }

    private static void promise27() {
        Script.run("promise 27: cutOff", """
                cutOff(1, 0, 0) = INVALID cutOff(0, 0, 0) = INVALID addRock(50, 3, 1) = 0 cutOff(1, 0, 199) = 0 cutOff(2, 0, 0) = INVALID
                cutOff(3, 0, 0) = INVALID addRock(51, 3, 1) = 1 cutOff(2, 0, 199) = 200 cutOff(3, 0, 199) = 0 cutOff(4, 0, 0) = INVALID
                cutOff(5, 0, 0) = INVALID cutOff(7, 0, 0) = INVALID addRock(99, 9, 1) = 2
                cutOff(4, 0, 199) = 200 cutOff(6, 0, 199) = 200 cutOff(7, 0, 199) = 0 cutOff(5, 0, 199) = 0
                setTide(3, 51) = 50 cutOff(2, 0, 199) = 13 cutOff(2, 0, 3) = 3 cutOff(2, 1, 2) = 2 cutOff(2, 3, 3) = 0 cutOff(2, 4, 4) = 1
                cutOff(2, 199, 199) = 0 cutOff(2, 198, 199) = 1 setTide(8, 99) = 50 cutOff(6, 0, 199) = 8 cutOff(6, 4, 7) = 4
                cutOff(4, 0, 199) = 13 cutOff(4, 0, 21) = 13 cutOff(4, 0, 20) = 12
                setSwell(3, 4) = 3 cutOff(2, 0, 199) = 8 cutOff(6, 0, 199) = 8 setSwell(8, 4) = 3 cutOff(6, 0, 16) = 8
                cutOff(2, 0, 16) = 17 setTide(8, 98) = 99 cutOff(6, 0, 16) = 17 cutOff(4, 0, 199) = 200
                cutOff(0, 0, 0) = INVALID cutOff(8, 0, 0) = INVALID cutOff(-1, 0, 0) = INVALID cutOff(1, 1, 0) = INVALID
                cutOff(1, -1, 0) = INVALID cutOff(1, 0, 200) = INVALID cutOff(1, 200, 200) = INVALID cutOff(MIN, 0, 0) = INVALID
                cutOff(MAX, 0, 0) = INVALID cutOff(1, MIN, MAX) = INVALID
                """);
    }

    private static void promise28() {
        Script.run("promise 28: lasts", """
                lasts(0, 0) = INVALID
                program("rock 0 9 2;rock 0 9 2;keeper 0;keeper 0;out 0 0 0;bring 0 0 0 20;bring 0 0 1 20;bring 0 0 2 20;bring 1 0 0 9;") = 9
                lasts(0, 0) = NONE lasts(0, 1) = NONE lasts(0, 2) = NONE pass(1) = 0 lasts(1, 0) = NONE
                lasts(0, 0) = 5 lasts(0, 1) = 3 lasts(0, 2) = 9 setKeep(0, 0, 3) = 0 lasts(0, 0) = 4 setKeep(0, 0, 2) = 3 lasts(0, 0) = 5
                setKeep(0, 0, 17) = 2 lasts(0, 0) = 0 setKeep(0, 1, 1) = 0 lasts(0, 1) = 2
                change(0, 1, 1, 1) = 1 lasts(0, 2) = 9 pass(1) = 0 lasts(0, 2) = 3 lasts(0, 1) = 1 lasts(0, 0) = 0
                lasts(-1, 0) = INVALID lasts(2, 0) = INVALID lasts(0, -1) = INVALID lasts(0, 3) = INVALID lasts(MIN, 0) = INVALID
                lasts(0, MAX) = INVALID lasts(1, 3) = INVALID
                """);
    }

    private static void promise29() {
        Script.run("promise 29: doneOn", """
                doneOn(0) = INVALID
                program("rock 0 3 1;rock 51 9 1;keeper 0;keeper 0;out 0 4 0;relief 0 6 0 1;ashore 0 5 1;ashore 0 9 1;bring 1 0 0 1;") = 9
                bring(0, 199, 0, 1) = 6 bring(0, 198, 0, 1) = 7
                doneOn(0) = 4 doneOn(1) = 6 doneOn(2) = NONE doneOn(3) = 9 doneOn(4) = NONE doneOn(5) = NONE doneOn(6) = 198
                doneOn(7) = INVALID doneOn(-1) = INVALID doneOn(MIN) = INVALID doneOn(MAX) = INVALID
                setTide(13, 51) = 50 doneOn(4) = 13 setSwell(4, 9) = 3 setSwell(5, 9) = 3 doneOn(0) = 6 doneOn(1) = 6 doneOn(2) = 6
                setSwell(6, 9) = 3 doneOn(1) = 7 doneOn(2) = 7 doneOn(3) = NONE
                count(0) = 0 count(3) = 7 count(5) = 0 count(7) = 0 turn(4, 2) = 0 keeper(0, 1) = NONE count(9) = 5
                """);
        Script.run("promise 29: doneOn near the last day", """
                addRock(0, 3, 1) = 0 bring(0, 198, 0, 1) = 1 doneOn(0) = 198 setSwell(198, 4) = 3 doneOn(0) = NONE
                bring(0, 197, 0, 1) = 2 doneOn(1) = 197 pass(60) = 0 pass(60) = 0 pass(60) = 0 doneOn(1) = 197 pass(19) = 1
                count(3) = 1 turn(0, 2) = 199 doneOn(0) = NONE doneOn(1) = INVALID
                """);
    }

    private static void promise30() {
        Script.run("promise 30: later", """
                later(0, 0, 0) = INVALID
                program("rock 0 3 1;keeper 2;keeper 0;out 0 2 0;swell 4 9;relief 0 4 0 1;") = 6
                later(0, 0, 0) = 2 later(0, 0, 1) = NONE later(0, 2, 1) = NONE later(0, 3, 1) = 0 later(0, 6, 1) = NONE
                later(1, 5, 1) = NONE later(1, 6, 1) = 0 later(0, 5, 2) = 12 later(0, 5, 3) = 3 later(0, 5, 4) = 1 later(0, 4, 4) = 0
                later(0, 8, 2) = 0 later(0, 8, 5) = 3 later(0, 8, 6) = 2 later(0, 60, 6) = 54 later(1, 60, 3) = 55 later(1, 60, 0) = 0
                later(0, 61, 0) = INVALID later(0, -1, 0) = INVALID later(0, 0, 7) = INVALID later(0, 0, -1) = INVALID
                later(2, 0, 0) = INVALID later(-1, 0, 0) = INVALID later(MIN, 0, 0) = INVALID later(0, MAX, 0) = INVALID
                later(0, 0, MIN) = INVALID count(0) = 0 count(3) = 2 keeper(0, 6) = 0 count(9) = 1 rock(0, 5) = 0
                pass(3) = 0 later(0, 2, 2) = 12 later(0, 0, 2) = 3
                """);
        Script.run("promise 30: later near the last day", """
                come(0) = 0 pass(60) = 0 pass(60) = 0 pass(60) = 0 later(0, 19, 6) = 199 later(0, 20, 6) = ILLEGAL later(0, 60, 6) = ILLEGAL
                later(0, 61, 6) = INVALID later(1, 20, 6) = INVALID later(0, 20, 7) = INVALID pass(19) = 0 later(0, 0, 6) = 199
                later(0, 1, 6) = ILLEGAL
                """);
    }

    private static void promise31() {
        Script.run("promise 31: nextOut", """
                nextOut() = NONE come(0) = 0 nextOut() = 0 come(1) = 1 nextOut() = 1 come(1) = 2 nextOut() = 1 come(2) = 3 nextOut() = 3
                addRock(0, 9, 3) = 0 change(0, 9, 3, 1) = 1 nextOut() = 1 relieve(0, 9, 3, 1) = 2 nextOut() = 2 change(0, 9, 2, 0) = 3
                nextOut() = 2 change(0, 9, 2, 1) = 4 nextOut() = 0 change(0, 9, 0, 1) = 5 nextOut() = NONE cancel(0) = 4 nextOut() = 3
                """);
        Script.run("promise 31: nextOut, the fewest days out come first", """
                program("rock 0 9 3;keeper 2;keeper 1;keeper 0;keeper 0;out 0 0 0;out 0 0 1;out 0 0 2;") = 8 pass(1) = 0 nextOut() = 3
                program("ashore 0 1 1;out 0 1 3;pass 1;ashore 0 2 0;ashore 0 2 2;pass 1;") = 6
                keeper(0, 3) = 2 keeper(1, 3) = 1 keeper(2, 3) = 2 keeper(3, 3) = 2 nextOut() = 1
                change(0, 9, 1, 1) = 1 nextOut() = 0 change(0, 9, 0, 1) = 2 nextOut() = 2 change(0, 9, 2, 1) = 3 nextOut() = NONE
                """);
    }

    private static void promise32() {
        Script.run("promise 32: nextIn", """
                nextIn() = NONE program("rock 0 9 3;rock 0 3 3;keeper 0;keeper 1;keeper 2;keeper 2;out 0 0 0;out 0 0 1;out 1 1 2;") = 9
                nextIn() = NONE pass(1) = 0 nextIn() = 1 pass(1) = 0 nextIn() = 1 pass(2) = 0 nextIn() = 2 count(4) = 1
                change(0, 9, 2, 0) = 1 nextIn() = 1 relieve(0, 9, 1, 3) = 2 nextIn() = 0 change(0, 9, 0, 1) = 3 nextIn() = 0
                change(0, 9, 0, 0) = 4 nextIn() = NONE cancel(1) = 3 nextIn() = 1
                """);
        Script.run("promise 32: nextIn, of several the most doubled days, then the smallest number", """
                program("rock 0 3 3;rock 0 9 3;keeper 0;keeper 0;keeper 0;keeper 0;out 1 0 0;out 0 0 1;out 0 0 2;swell 1 4;bring 0 1 0 1;") = 11
                pass(1) = 0 nextIn() = 0 pass(1) = 1 nextIn() = 1 change(0, 9, 1, 0) = 2 nextIn() = 2 change(0, 9, 2, 0) = 3 nextIn() = 0
                """);
        Script.run("promise 32: nextIn, units go before doubled days", """
                program("rock 0 3 3;rock 0 9 3;keeper 1;keeper 2;out 0 0 0;out 1 0 1;swell 1 4;bring 0 1 0 1;pass 3;") = 9
                keeper(0, 2) = 8 keeper(0, 4) = 1 keeper(1, 2) = 9 keeper(1, 4) = 0 nextIn() = 1
                """);
    }
}
