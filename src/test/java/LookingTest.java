/** Promises 19 to 24: what can be looked at. */
public final class LookingTest {
    private LookingTest() {
    }

    public static void main(String[] arguments) {
        promise19();
        promise20();
        promise21();
        promise22();
        promise23();
        promise24();
        Script.finish();
    }

    private static void promise19() {
        Script.run("promise 19: count", """
                program("rock 0 3 2;rock 99 9 1;keeper 0;keeper 1;keeper 2;out 0 0 0;out 0 0 1;out 0 0 2;out 1 0 2;bring 0 9 0 1;") = 10
                pass(2) = 2 take(1) = 2 type("rock") = 4
                count(0) = 2 count(1) = 2 count(2) = 3 count(3) = 2 count(4) = 1 count(5) = 2 count(6) = 1 count(7) = 2
                count(8) = 1 count(9) = 3 count(10) = 4 count(-1) = INVALID count(11) = INVALID count(MIN) = INVALID
                count(MAX) = INVALID count(NONE) = INVALID
                """);
    }

    private static void promise20() {
        Script.run("promise 20: rock", """
                rock(0, 0) = INVALID
                program("rock 7 3 2;rock 51 9 1;rock 3 8 3;keeper 0;keeper 1;keeper 2;out 0 0 2;out 0 0 1;out 1 0 0;bring 0 9 0 1;") = 10
                bring(2, 5, 1, 1) = 5 bring(2, 7, 2, 1) = 6 pass(3) = 3
                rock(0, 0) = 7 rock(0, 1) = 3 rock(0, 2) = 2 rock(0, 3) = 2 rock(0, 4) = 1 rock(0, 5) = 0 rock(0, 6) = 1
                rock(1, 0) = 51 rock(1, 1) = 9 rock(1, 2) = 1 rock(1, 3) = 0 rock(1, 4) = 1 rock(1, 5) = 3 rock(1, 6) = NONE
                rock(2, 0) = 3 rock(2, 1) = 8 rock(2, 2) = 3 rock(2, 3) = 0 rock(2, 4) = 2 rock(2, 5) = 0 rock(2, 6) = NONE
                rock(0, 7) = INVALID rock(0, -1) = INVALID rock(3, 0) = INVALID rock(-1, 0) = INVALID rock(MIN, 0) = INVALID
                rock(0, MAX) = INVALID rock(NONE, 3) = INVALID
                """);
    }

    private static void promise21() {
        Script.run("promise 21: store", """
                store(0, 0, 0) = INVALID
                program("rock 0 9 3;keeper 0;keeper 1;keeper 2;out 0 0 0;out 0 0 1;out 0 0 2;bring 0 0 0 20;bring 0 0 1 8;bring 0 0 2 10;") = 10
                store(0, 0, 5) = 0 store(0, 1, 5) = 0 store(0, 2, 5) = 0 pass(1) = 0 setKeep(0, 0, 10) = 0 pass(1) = 0
                store(0, 0, 0) = 10 store(0, 0, 1) = 10 store(0, 0, 2) = 10 store(0, 0, 3) = 8 store(0, 0, 4) = 20 store(0, 0, 5) = 9
                store(0, 1, 0) = 0 store(0, 1, 1) = 0 store(0, 1, 2) = 8 store(0, 1, 3) = 2 store(0, 1, 4) = 8 store(0, 1, 5) = 5
                store(0, 2, 0) = 0 store(0, 2, 1) = 0 store(0, 2, 2) = 10 store(0, 2, 3) = 2 store(0, 2, 4) = 10 store(0, 2, 5) = 6
                store(0, 0, 6) = INVALID store(0, 0, -1) = INVALID store(0, 3, 0) = INVALID store(0, -1, 0) = INVALID
                store(1, 0, 0) = INVALID store(-1, 0, 0) = INVALID store(MAX, 0, 0) = INVALID store(0, MIN, 0) = INVALID
                store(0, 0, MAX) = INVALID
                """);
    }

    private static void promise22() {
        Script.run("promise 22: keeper", """
                keeper(0, 0) = INVALID
                program("rock 0 9 1;rock 51 9 1;rock 0 3 1;keeper 2;keeper 1;keeper 1;out 2 0 0;swell 1 4;bring 2 1 0 1;") = 9
                pass(2) = 1 program("ashore 2 3 0;pass 5;") = 2
                keeper(0, 0) = 2 keeper(0, 1) = NONE keeper(0, 2) = 0 keeper(0, 3) = 3 keeper(0, 4) = 1 keeper(0, 5) = 3 keeper(0, 6) = 1
                keeper(1, 0) = 1 keeper(1, 1) = NONE keeper(1, 2) = 0 keeper(1, 3) = 0 keeper(1, 4) = 0 keeper(1, 5) = 0 keeper(1, 6) = 7
                program("out 2 7 1;pass 1;") = 2 keeper(1, 1) = 2 keeper(1, 2) = 2 keeper(1, 3) = 1 keeper(1, 6) = 7
                keeper(0, 7) = INVALID keeper(0, -1) = INVALID keeper(3, 0) = INVALID keeper(-1, 0) = INVALID
                keeper(NONE, 0) = INVALID keeper(MIN, 0) = INVALID keeper(0, MAX) = INVALID
                """);
    }

    private static void promise23() {
        Script.run("promise 23: turn", """
                turn(0, 0) = INVALID
                program("rock 0 9 1;rock 0 9 1;keeper 0;keeper 1;relief 1 5 1 0;out 1 6 1;ashore 1 7 0;bring 1 8 2 9;") = 8
                turn(0, 0) = 0 turn(0, 1) = 1 turn(0, 2) = 5 turn(0, 3) = 1 turn(0, 4) = 0 turn(0, 5) = NONE turn(0, 6) = NONE
                turn(1, 0) = 1 turn(1, 1) = 1 turn(1, 2) = 6 turn(1, 3) = NONE turn(1, 4) = 1 turn(1, 5) = NONE turn(1, 6) = NONE
                turn(2, 0) = 1 turn(2, 1) = 1 turn(2, 2) = 7 turn(2, 3) = 0 turn(2, 4) = NONE turn(2, 5) = NONE turn(2, 6) = NONE
                turn(3, 0) = 2 turn(3, 1) = 1 turn(3, 2) = 8 turn(3, 3) = NONE turn(3, 4) = NONE turn(3, 5) = 2 turn(3, 6) = 9
                turn(4, 0) = INVALID turn(-1, 0) = INVALID turn(0, 7) = INVALID turn(0, -1) = INVALID turn(MIN, 0) = INVALID
                turn(0, MAX) = INVALID
                """);
    }

    private static void promise24() {
        Script.run("promise 24: sea", """
                setTide(3, 77) = 50 setSwell(17, 8) = 3 sea(3, 0) = 77 sea(17, 0) = 77 sea(17, 1) = 8 sea(3, 1) = 3 sea(0, 0) = 50
                sea(199, 0) = 77 sea(199, 1) = 3 pass(20) = 0 sea(17, 1) = 8
                sea(-1, 0) = INVALID sea(200, 0) = INVALID sea(0, -1) = INVALID sea(0, 2) = INVALID sea(MIN, 0) = INVALID
                sea(MAX, 1) = INVALID sea(0, MAX) = INVALID
                """);
    }
}
