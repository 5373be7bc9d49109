/** Promises 16 to 18: the text and its programs; and what the Terms say of them. */
public final class ProgramsTest {
    private ProgramsTest() {
    }

    public static void main(String[] arguments) {
        promise16();
        promise17();
        promise18();
        everyCommand();
        tokens();
        numbers();
        places();
        failedCommands();
        Script.finish();
    }

    private static void promise16() {
        Script.run("promise 16: append", """
                append(0) = INVALID append(256) = INVALID append(-1) = INVALID append(MIN) = INVALID append(MAX) = INVALID
                append(1) = 1 append(255) = 2 append(97) = 3 count(10) = 3 count(9) = 0 run() = -1000 clearText() = 3
                """);
        Script.run("promise 16: append without room", """
                type("%s") = 139 append(32) = 140 append(32) = FULL append(0) = INVALID append(256) = INVALID
                count(10) = 140 run() = 0 count(10) = 0 append(32) = 1
                """.formatted(" ".repeat(139)));
    }

    private static void promise17() {
        Script.run("promise 17: clearText", """
                clearText() = 0 type("keeper 2;") = 9 clearText() = 9 count(10) = 0 clearText() = 0 count(9) = 0 run() = 0
                count(2) = 0
                """);
    }

    private static void promise18() {
        Script.run("promise 18: run", """
                run() = 0 count(9) = 1 type("keeper 2;keeper 1;") = 18 run() = 2 count(10) = 0 count(9) = 2 count(2) = 2
                keeper(0, 0) = 2 keeper(1, 0) = 1 undo() = 1 count(2) = 0 count(10) = 0
                type("keeper 2;keeper 3;") = 18 run() = -1009 count(10) = 18 count(9) = 1 count(2) = 0 run() = -1009
                count(10) = 18
                """);
        Script.run("promise 18: a full text, with 23 commands", """
                type("%s") = 138 run() = 23 count(0) = 23 count(9) = 1 undo() = 0 count(0) = 0
                """.formatted("pass1;".repeat(23)));
        Script.run("promise 18: a full text that is read to its very end", """
                type("%s;") = 140 run() = 1 sea(7, 1) = 9
                """.formatted("swell" + " ".repeat(131) + "7 9"));
        Script.run("promise 18: a full text that ends where something is missing", """
                type("%s") = 140 run() = -1140
                """.formatted("swell" + " ".repeat(132) + "7 9"));
    }

    private static void everyCommand() {
        Script.run("programs: every command", """
                program("rock 40 4 2;keeper 2;keeper 1;out 0 0 0;bring 0 1 2 300;swell 2 9;relief 0 2 0 1;ashore 0 9 1;pass 1;") = 9
                rock(0, 0) = 40 rock(0, 1) = 4 rock(0, 2) = 2 keeper(0, 0) = 2 keeper(1, 0) = 1 keeper(0, 1) = 0 count(0) = 1
                sea(2, 1) = 9 count(3) = 3 turn(0, 0) = 2 turn(0, 2) = 1 turn(0, 5) = 2 turn(0, 6) = 300
                turn(1, 0) = 0 turn(1, 2) = 2 turn(1, 3) = 0 turn(1, 4) = 1 turn(2, 0) = 1 turn(2, 2) = 9 turn(2, 3) = 1
                turn(2, 4) = NONE count(9) = 1 count(10) = 0
                """);
        Script.run("programs: out and ashore", """
                program("rock 0 9 1;keeper 0;out 0 7 0;ashore 0 8 0;") = 4 turn(0, 1) = 0 turn(0, 2) = 7 turn(0, 4) = 0
                turn(0, 3) = NONE turn(1, 2) = 8 turn(1, 3) = 0 turn(1, 4) = NONE
                """);
    }

    private static void tokens() {
        Script.run("programs: spaces are needed only between runs of one sort", """
                program("rock40 4 2;") = 1 program("  rock  40  4  2  ;  ") = 1 program("keeper0;keeper1 ;") = 2 count(2) = 2
                program("rock4042;") = -1008 program("rock 40 42;") = -1010 program("keeper0keeper1;") = -1007
                program("keeperkeeper 0;") = -1000 program("keeper 0 ; ; ") = -1011 program(";") = -1000 program(" ;") = -1001
                program("   ") = 0 program("") = 0
                """);
        Script.run("programs: other characters", """
                program("Keeper 0;") = -1000 program("kEeper 0;") = -1000 program("keepeR 0;") = -1000 program("rock.1 1 1;") = -1004
                program("rock 1,1,1;") = -1006 program("keeper -1;") = -1007 program("keeper 0:") = -1008 program("keeper 0;;") = -1009
                program("keeperz 0;") = -1000 program("keepera 0;") = -1000 program("zkeeper 0;") = -1000 program("keeper 0z;") = -1008
                program("keeper 0;{") = -1009 program("`keeper 0;") = -1000 program("keeper /;") = -1007 program("keeper :;") = -1007
                count(2) = 0
                """);
        Script.run("programs: characters that are no space", """
                append(9) = 1 run() = -1000 clearText() = 1 append(255) = 1 run() = -1000 clearText() = 1
                append(160) = 1 run() = -1000 clearText() = 1 append(10) = 1 run() = -1000 clearText() = 1
                type("keeper") = 6 append(1) = 7 run() = -1006 clearText() = 7
                """);
        Script.run("programs: words that only begin like a command", """
                program("roc 1 1 1;") = -1000 program("rocks 1 1 1;") = -1000 program("pas 1;") = -1000 program("passs 1;") = -1000
                program("o 0 0 0;") = -1000 program("relieve 0 0 0 1;") = -1000 program("change 0 0 0 1;") = -1000
                program("come 1;") = -1000 program("7 1;") = -1000 program("tide 1 1;") = -1000
                """);
    }

    private static void numbers() {
        Script.run("programs: numbers of 1 to 4 digits, the first of several not 0", """
                program("keeper 0;") = 1 program("keeper 00;") = -1007 program("keeper 01;") = -1007 program("pass 10;") = 1
                program("swell 0100 1;") = -1006 program("swell 100 1;") = 1 sea(100, 1) = 1 program("pass 9999;") = -1000
                program("pass 10000;") = -1005 program("pass 00001;") = -1005 program("swell 9 99999;") = -1008 count(0) = 10
                """);
        Script.run("programs: numbers are read whole", """
                program("rock 99 9 3;rock 10 8 2;") = 2 rock(0, 0) = 99 rock(1, 0) = 10 program("bring 1 199 1 300;") = 1
                turn(0, 1) = 1 turn(0, 2) = 199 turn(0, 6) = 300 program("bring 1 199 1 1234;") = -1000
                program("bring 1 199 1 301;") = -1000
                """);
    }

    private static void places() {
        Script.run("programs: the place of a failure", """
                program("pass") = -1004 program("pass  ") = -1006 program("pass 1") = -1006 program("pass 1  ") = -1008
                program("pass pass 1;") = -1005 program("pass;") = -1004 program("pass 1 1;") = -1007 program("pass 1 pass;") = -1007
                program("relief 0 0 0") = -1012 program("relief 0 0 0;") = -1012 program("relief 0 0 0 1 1;") = -1015
                program("rock 1 1;") = -1008 program("bring 0 0 0;") = -1011 program("swell 0;") = -1007 program("out 0 0;") = -1007
                program("ashore 0 0;") = -1010 program("keeper;") = -1006 program("rock 1 1 1 1;") = -1011
                """);
        Script.run("programs: a command that fails has the place of its word, when its ; is read", """
                program("keeper 0;  keeper 3 ; keeper 1;") = -1011 program("keeper 0;  keeper 3 x") = -1020
                program("keeper 3") = -1008 program("keeper 3;x") = -1000 program("x;keeper 3;") = -1000
                program("keeper 2;x;keeper 3;") = -1009 count(2) = 0 count(9) = 0
                """);
    }

    private static void failedCommands() {
        Script.run("programs: nothing stays of one that fails", """
                addRock(0, 9, 2) = 0 come(2) = 0 take(0) = 0
                program("keeper 1;out 0 0 0;bring 0 0 0 9;swell 3 9;pass 2;rock 1 1 1;pass 200;") = -1061
                count(0) = 0 count(1) = 1 count(2) = 1 count(3) = 0 count(5) = 0 count(8) = 1 count(9) = 3 count(10) = 70
                keeper(0, 1) = NONE keeper(0, 2) = 0 sea(3, 1) = 3 store(0, 0, 0) = 0 undo() = 2 count(8) = 0 count(10) = 70
                clearText() = 70 program("keeper 1;") = 1 keeper(1, 0) = 1 count(9) = 3
                """);
        Script.run("programs: a command may fail by state and by room, and missed turns are no failure", """
                program("rock 0 2 1;rock 0 9 1;rock 0 9 1;bring 0 0 0 1;pass 3;") = 5 count(7) = 3 program("rock 0 9 1;") = -1000
                program("swell 2 0;") = -1000 program("swell 3 0;") = 1 program("bring 0 2 0 1;") = -1000
                program("pass 60;pass 60;pass 60;pass 17;") = -1024 count(0) = 3 program("pass 60;pass 60;pass 60;pass 16;") = 4
                count(0) = 199 count(3) = 0
                """);
        Script.run("programs: a failing one records nothing and drops no state of a full history", """
                come(0) = 0 come(0) = 1 come(0) = 2 come(0) = 3 come(0) = 4 program("keeper 1;x") = -1009 count(9) = 5
                program("keeper 1;") = 1 count(9) = 5 undo() = 4 undo() = 3 undo() = 2 undo() = 1 undo() = 0 count(2) = 1
                """);
    }
}
