/** The boundary cases of "Programs" and of promises 16 to 18, a run for each sentence and each place of a failure. */
public final class ProgramBoundsTest {
    private ProgramBoundsTest() {
    }

    public static void main(String[] arguments) {
        append();
        clearText();
        run();
        length();
        tokens();
        words();
        numbers();
        spaces();
        placesOfTokens();
        placesOfCommands();
        refusedCommands();
        refusedTurns();
        nothingStays();
        Script.finish();
    }

    private static void append() {
        Script.run("promise 16, character: 1 to 255", """
                append(0) = INVALID count(10) = 0 append(1) = 1 append(255) = 2 append(256) = INVALID count(10) = 2
                append(-1) = INVALID append(MIN) = INVALID append(MAX) = INVALID append(353) = INVALID count(10) = 2
                """);
        Script.run("promise 16: the first character of an empty text", "append(32) = 1 count(10) = 1 run() = 0 count(10) = 0 append(32) = 1");
        Script.run("promise 16: CAPACITY_EXCEEDED if the text already has 140 characters", """
                type("%s") = 139 append(97) = 140 append(97) = FULL count(10) = 140 append(1) = FULL append(255) = FULL clearText() = 140
                append(97) = 1
                """.formatted(" ".repeat(139)));
        Script.run("promise 16: INVALID_ARGUMENT comes before CAPACITY_EXCEEDED", """
                type("%s") = 140 append(0) = INVALID append(256) = INVALID append(1) = FULL
                """.formatted(" ".repeat(140)));
        Script.run("promise 16: append is no action", "append(97) = 1 count(9) = 0 undo() = ILLEGAL count(10) = 1");
    }

    private static void clearText() {
        Script.run("promise 17: an empty text", "clearText() = 0 count(10) = 0 clearText() = 0");
        Script.run("promise 17: a text of one character", "append(97) = 1 clearText() = 1 count(10) = 0 run() = 0 count(9) = 1");
        Script.run("promise 17: a full text", """
                type("%s") = 140 clearText() = 140 count(10) = 0 type("keeper 1;") = 9 run() = 1 keeper(0, 0) = 1
                """.formatted("x".repeat(140)));
        Script.run("promise 17: clearText is no action", "append(97) = 1 clearText() = 1 count(9) = 0 undo() = ILLEGAL");
    }

    private static void run() {
        Script.run("promise 18: an empty text is a program without commands, and one action", """
                run() = 0 count(9) = 1 count(10) = 0 undo() = 0
                """);
        Script.run("promise 18: a text of spaces is a program without commands, and one action", """
                come(0) = 0 append(32) = 1 run() = 0 count(9) = 2 count(10) = 0 append(32) = 1 append(32) = 2 run() = 0 count(9) = 3
                """);
        Script.run("promise 18: one action, however many commands", """
                type("keeper 0;keeper 0;keeper 0;") = 27 run() = 3 count(9) = 1 undo() = 0 count(2) = 0
                """);
        Script.run("promise 18: the text becomes empty if it does not fail", """
                type("keeper 0;") = 9 run() = 1 count(10) = 0 run() = 0 count(2) = 1
                """);
        Script.run("promise 18: the text is kept if it fails", """
                type("keeper 3;") = 9 run() = -1000 count(10) = 9 run() = -1000 clearText() = 9
                """);
        Script.run("promise 18: the text is kept as it was, and may be gone on with", """
                type("keeper 1;pass") = 13 run() = -1013 type(" 2;") = 16 run() = 2 count(0) = 2 count(2) = 1
                """);
        Script.run("promise 18: a program that fails is no action", """
                come(0) = 0 come(0) = 1 append(97) = 1 run() = -1000 count(9) = 2 undo() = 1 count(2) = 1
                """);
        Script.run("promise 18: -1000 minus the place, the first one", "append(59) = 1 run() = -1000");
        Script.run("promise 18: -1000 minus the place, the last one of a full text", """
                type("%s") = 140 run() = -1139
                """.formatted(" ".repeat(139) + "x"));
        Script.run("promise 18: -1000 minus the place, the length of a full text", """
                type("%s") = 140 run() = -1140
                """.formatted("pass" + " ".repeat(135) + "1"));
        Script.run("promise 18: a full text that does not fail", """
                type("%s") = 140 run() = 1 count(0) = 1
                """.formatted("pass" + " ".repeat(134) + "1;"));
        Script.run("promise 18: the greatest number of commands", """
                type("%s  ") = 140 run() = 23 count(0) = 46 undo() = 0 count(0) = 0
                """.formatted("pass2;".repeat(23)));
    }

    private static void length() {
        Script.run("Programs: a text of at most 140 characters", """
                type("%s") = 140 append(59) = FULL append(32) = FULL run() = 1 setSwell(199, 0) = 9 append(32) = 1
                """.formatted("swell" + " ".repeat(129) + "199 9;"));
        Script.run("Programs: commands, possibly none", """
                run() = 0 program("") = 0 program(" ") = 0 program("keeper 0;") = 1 program("keeper 0;keeper 0;") = 2
                """);
        Script.run("Programs: each of the commands ends with a semicolon, the last one too", """
                program("keeper 0") = -1008 program("keeper 0;keeper 0") = -1017 program("keeper 0 keeper 0;") = -1009
                program("keeper 0,keeper 0;") = -1008 count(2) = 0 program("keeper 0;keeper 0;") = 2
                """);
        Script.run("Programs: no semicolon stands without a command", """
                program(";") = -1000 program("keeper 0;;") = -1009 program("keeper 0; ;") = -1010 program(";keeper 0;") = -1000
                """);
    }

    private static void tokens() {
        Script.run("Programs: runs of letters a to z, the first and the last letter are letters", """
                program("za 0;") = -1000 program("keeper 0az;") = -1008 program("keepera 0;") = -1000 program("keeperz 0;") = -1000
                program("keeper a;") = -1007 program("keeper z;") = -1007
                """);
        Script.run("Programs: what stands right before a or right behind z is no letter", """
                program("keeper`0;") = -1006 program("keeper{0;") = -1006 program("`keeper 0;") = -1000 program("{keeper 0;") = -1000
                """);
        Script.run("Programs: capital letters are no letters", """
                program("KEEPER 0;") = -1000 program("keepeR 0;") = -1000 program("keeperA0;") = -1006 program("keeperZ0;") = -1006
                """);
        Script.run("Programs: runs of digits, 0 and 9 are digits", """
                program("swell 90 9;") = 1 sea(90, 1) = 9 program("swell 109 0;") = 1 sea(109, 1) = 0
                """);
        Script.run("Programs: what stands right before 0 or right behind 9 is no digit", """
                program("keeper 0/;") = -1008 program("keeper 0:;") = -1008 program("keeper /;") = -1007 program("keeper :;") = -1007
                """);
        Script.run("Programs: runs are maximal", """
                program("keeperkeeper 0;") = -1000 program("pass 12;") = 1 count(0) = 12 program("keeper0keeper0;") = -1007
                program("keeper0;keeper1;") = 2
                """);
        Script.run("Programs: any other character is a token of its own", """
                program("keeper --0;") = -1007 program("keeper 0 -;") = -1009 program("keeper 0;  --") = -1011 program("keeper +1;") = -1007
                """);
        Script.run("Programs: other characters, the smallest and the greatest", """
                append(1) = 1 run() = -1000 clearText() = 1 append(255) = 1 run() = -1000 clearText() = 1
                type("keeper 0;") = 9 append(1) = 10 run() = -1009 clearText() = 10
                type("keeper 0;") = 9 append(255) = 10 run() = -1009 clearText() = 10
                """);
        Script.run("Programs: of all characters the one with code 32 alone is a space", """
                type("keeper") = 6 append(31) = 7 type("0;") = 9 run() = -1006 clearText() = 9
                type("keeper") = 6 append(33) = 7 type("0;") = 9 run() = -1006 clearText() = 9
                type("keeper") = 6 append(9) = 7 type("0;") = 9 run() = -1006 clearText() = 9
                type("keeper") = 6 append(10) = 7 type("0;") = 9 run() = -1006 clearText() = 9
                type("keeper") = 6 append(160) = 7 type("0;") = 9 run() = -1006 clearText() = 9
                type("keeper") = 6 append(32) = 7 type("0;") = 9 run() = 1
                """);
    }

    private static void words() {
        Script.run("Programs: rock is as addRock()", """
                program("rock 0 9 1;") = 1 program("rock 99 0 3;") = 1 rock(0, 0) = 0 rock(0, 1) = 9 rock(0, 2) = 1 rock(1, 0) = 99
                rock(1, 1) = 0 rock(1, 2) = 3
                """);
        Script.run("Programs: keeper is as come()", """
                program("keeper 0;keeper 2;") = 2 keeper(0, 0) = 0 keeper(1, 0) = 2
                """);
        Script.run("Programs: relief is as relieve()", """
                program("rock 0 9 1;keeper 0;keeper 0;relief 0 0 0 1;relief 0 199 1 0;") = 5 turn(0, 0) = 0 turn(0, 1) = 0 turn(0, 2) = 0
                turn(0, 3) = 0 turn(0, 4) = 1 turn(1, 2) = 199 turn(1, 3) = 1 turn(1, 4) = 0
                """);
        Script.run("Programs: out is as change() with 1", """
                program("rock 0 9 1;rock 0 9 1;keeper 0;keeper 0;out 1 199 1;out 0 0 0;") = 6 turn(0, 0) = 1 turn(0, 1) = 1 turn(0, 2) = 199
                turn(0, 3) = NONE turn(0, 4) = 1 turn(1, 1) = 0 turn(1, 2) = 0 turn(1, 3) = NONE turn(1, 4) = 0
                """);
        Script.run("Programs: ashore is as change() with 0", """
                program("rock 0 9 1;rock 0 9 1;keeper 0;keeper 0;ashore 1 199 1;ashore 0 0 0;") = 6 turn(0, 0) = 1 turn(0, 1) = 1
                turn(0, 2) = 199 turn(0, 3) = 1 turn(0, 4) = NONE turn(1, 1) = 0 turn(1, 2) = 0 turn(1, 3) = 0 turn(1, 4) = NONE
                """);
        Script.run("Programs: bring is as bring()", """
                program("rock 0 9 1;bring 0 0 0 1;bring 0 199 2 300;") = 3 turn(0, 0) = 2 turn(0, 2) = 0 turn(0, 5) = 0 turn(0, 6) = 1
                turn(1, 2) = 199 turn(1, 5) = 2 turn(1, 6) = 300
                """);
        Script.run("Programs: swell is as setSwell()", """
                program("swell 0 0;swell 199 9;") = 2 sea(0, 1) = 0 sea(199, 1) = 9
                """);
        Script.run("Programs: pass is as pass()", """
                program("pass 1;") = 1 count(0) = 1 program("pass 60;") = 1 count(0) = 61
                """);
        Script.run("Programs: no other word, and none that only begins like one or goes on", """
                program("tide 0 0;") = -1000 program("keep 0 0 0;") = -1000 program("cancel 0;") = -1000 program("rockk 0 9 1;") = -1000
                program("roc 0 9 1;") = -1000 program("keepe 0;") = -1000 program("relie 0 0 0 1;") = -1000 program("ou 0 0 0;") = -1000
                program("outs 0 0 0;") = -1000 program("ashor 0 0 0;") = -1000 program("brin 0 0 0 1;") = -1000 program("swel 0 0;") = -1000
                program("pas 1;") = -1000 program("passs 1;") = -1000 program("p 1;") = -1000
                """);
    }

    private static void numbers() {
        Script.run("Programs: a number of 1 digit, the smallest and the greatest", """
                program("swell 0 0;swell 9 9;") = 2 sea(0, 1) = 0 sea(9, 1) = 9
                """);
        Script.run("Programs: a number of 4 digits is one, of 5 digits is none", """
                program("  pass 1000;") = -1002 program("  pass 9999;") = -1002 program("  pass 10000;") = -1007
                program("  pass 99999;") = -1007 program("  pass 11111111111;") = -1007
                """);
        Script.run("Programs: of several digits the first is not 0", """
                program("pass 01;") = -1005 program("pass 00;") = -1005 program("pass 001;") = -1005 program("pass 0001;") = -1005
                program("pass 00001;") = -1005 program("keeper 0;") = 1 program("pass 10;") = 1 count(0) = 10
                """);
        Script.run("Programs: a number that is none fails before the call could be refused", """
                program("pass 0;") = -1000 program("pass 00;") = -1005 program("keeper 9;") = -1000 program("keeper 09;") = -1007
                """);
        Script.run("Programs: numbers of 2 and 3 digits", """
                program("rock 10 9 1;rock 99 9 1;swell 100 1;swell 199 2;") = 4 rock(0, 0) = 10 rock(1, 0) = 99 sea(100, 1) = 1
                sea(199, 1) = 2 program("swell 200 1;") = -1000 program("swell 999 1;") = -1000
                """);
        Script.run("Programs: digits are read in their order", """
                program("swell 123 4;swell 98 7;bring") = -1028 clearText() = 28 program("swell 123 4;swell 98 7;") = 2
                sea(123, 1) = 4 sea(98, 1) = 7 sea(89, 1) = 3
                """);
    }

    private static void spaces() {
        Script.run("Programs: spaces before the first token", "program(\" keeper 0;\") = 1 program(\"     keeper 0;\") = 1 count(2) = 2");
        Script.run("Programs: spaces between tokens", "program(\"swell   5    7   ;   swell   6   8  ;\") = 2 sea(5, 1) = 7 sea(6, 1) = 8");
        Script.run("Programs: spaces after the last token", "program(\"keeper 0; \") = 1 program(\"keeper 0;      \") = 1 count(2) = 2");
        Script.run("Programs: no space is needed between letters and digits, digits and a semicolon, a semicolon and letters", """
                program("keeper0;keeper1;swell5 7;pass1;") = 4 count(2) = 2 sea(5, 1) = 7 count(0) = 1
                """);
        Script.run("Programs: a space is needed between two runs of digits", """
                program("swell 57;") = -1008 program("swell 5 7;") = 1
                """);
        Script.run("Programs: a space within a run makes two of it", """
                program("kee per 0;") = -1000 program("pass 1 0;") = -1007 program("pass 10;") = 1
                """);
    }

    private static void placesOfTokens() {
        Script.run("Programs: places in a rock", """
                program("rock") = -1004 program("rock 1") = -1006 program("rock 1 2") = -1008 program("rock 1 2 3") = -1010
                program("rock;") = -1004 program("rock 1;") = -1006 program("rock 1 2;") = -1008 program("rock 1 2 3 4;") = -1011
                program("rock x 2 3;") = -1005 program("rock 1 x 3;") = -1007 program("rock 1 2 x;") = -1009 program("rock 1 2 3 x;") = -1011
                program("rock 1 2 3;x") = -1011 program("rock 1 2 3;") = 1
                """);
        Script.run("Programs: places in a keeper", """
                program("keeper") = -1006 program("keeper 1") = -1008 program("keeper;") = -1006 program("keeper 1 2;") = -1009
                program("keeper x;") = -1007 program("keeper 1 x;") = -1009 program("keeper 1;x") = -1009 program("keeper 1;") = 1
                """);
        Script.run("Programs: places in a relief", """
                program("rock 0 9 1;keeper 0;keeper 0;") = 3
                program("relief") = -1006 program("relief 0") = -1008 program("relief 0 5") = -1010 program("relief 0 5 0") = -1012
                program("relief 0 5 0 1") = -1014 program("relief;") = -1006 program("relief 0;") = -1008 program("relief 0 5;") = -1010
                program("relief 0 5 0;") = -1012 program("relief 0 5 0 1 1;") = -1015 program("relief x 5 0 1;") = -1007
                program("relief 0 x 0 1;") = -1009 program("relief 0 5 x 1;") = -1011 program("relief 0 5 0 x;") = -1013
                program("relief 0 5 0 1 x;") = -1015 program("relief 0 5 0 1;x") = -1015 program("relief 0 5 0 1;") = 1
                """);
        Script.run("Programs: places in an out", """
                program("rock 0 9 1;keeper 0;") = 2
                program("out") = -1003 program("out 0") = -1005 program("out 0 5") = -1007 program("out 0 5 0") = -1009
                program("out;") = -1003 program("out 0;") = -1005 program("out 0 5;") = -1007 program("out 0 5 0 1;") = -1010
                program("out x 5 0;") = -1004 program("out 0 x 0;") = -1006 program("out 0 5 x;") = -1008 program("out 0 5 0 x;") = -1010
                program("out 0 5 0;x") = -1010 program("out 0 5 0;") = 1
                """);
        Script.run("Programs: places in an ashore", """
                program("rock 0 9 1;keeper 0;") = 2
                program("ashore") = -1006 program("ashore 0") = -1008 program("ashore 0 5") = -1010 program("ashore 0 5 0") = -1012
                program("ashore;") = -1006 program("ashore 0;") = -1008 program("ashore 0 5;") = -1010 program("ashore 0 5 0 1;") = -1013
                program("ashore x 5 0;") = -1007 program("ashore 0 x 0;") = -1009 program("ashore 0 5 x;") = -1011
                program("ashore 0 5 0 x;") = -1013 program("ashore 0 5 0;x") = -1013 program("ashore 0 5 0;") = 1
                """);
        Script.run("Programs: places in a bring", """
                program("rock 0 9 1;") = 1
                program("bring") = -1005 program("bring 0") = -1007 program("bring 0 5") = -1009 program("bring 0 5 0") = -1011
                program("bring 0 5 0 1") = -1013 program("bring;") = -1005 program("bring 0;") = -1007 program("bring 0 5;") = -1009
                program("bring 0 5 0;") = -1011 program("bring 0 5 0 1 1;") = -1014 program("bring x 5 0 1;") = -1006
                program("bring 0 x 0 1;") = -1008 program("bring 0 5 x 1;") = -1010 program("bring 0 5 0 x;") = -1012
                program("bring 0 5 0 1 x;") = -1014 program("bring 0 5 0 1;x") = -1014 program("bring 0 5 0 1;") = 1
                """);
        Script.run("Programs: places in a swell", """
                program("swell") = -1005 program("swell 0") = -1007 program("swell 0 5") = -1009 program("swell;") = -1005
                program("swell 0;") = -1007 program("swell 0 5 1;") = -1010 program("swell x 5;") = -1006 program("swell 0 x;") = -1008
                program("swell 0 5 x;") = -1010 program("swell 0 5;x") = -1010 program("swell 0 5;") = 1
                """);
        Script.run("Programs: places in a pass", """
                program("pass") = -1004 program("pass 1") = -1006 program("pass;") = -1004 program("pass 1 1;") = -1007
                program("pass x;") = -1005 program("pass 1 x;") = -1007 program("pass 1;x") = -1007 program("pass 1;") = 1
                """);
    }

    private static void placesOfCommands() {
        Script.run("Programs: a word, a number, a semicolon and another character where a command begins", """
                program("x") = -1000 program("5") = -1000 program(";") = -1000 program("-") = -1000 program("keeper 0; x") = -1010
                program("keeper 0; 5") = -1010 program("keeper 0; ;") = -1010 program("keeper 0; -") = -1010
                """);
        Script.run("Programs: a word of a command where a number or a semicolon has to be", """
                program("pass pass 1;") = -1005 program("pass 1 pass 1;") = -1007 program("swell 5 swell 5 5;") = -1008
                """);
        Script.run("Programs: the place is the first character of the token, behind spaces", """
                program("   xyz 1;") = -1003 program("pass    xyz;") = -1008 program("pass 1    xyz;") = -1010 program("pass 1  12;") = -1008
                program("pass    00012;") = -1008
                """);
        Script.run("Programs: the place is the length of the text if it ends where something is missing, spaces counted", """
                program("pass") = -1004 program("pass ") = -1005 program("pass   ") = -1007 program("pass 1   ") = -1009
                program("keeper 0;pass  ") = -1015 program("keeper 0;   ") = 1
                """);
        Script.run("Programs: the place of a command that is refused is that of its word, behind spaces", """
                program("pass 0;") = -1000 program("   pass 0;") = -1003 program("keeper 0;pass 0;") = -1009
                program("keeper 0;  pass   0   ;") = -1011
                """);
        Script.run("Programs: a command is run as its semicolon is read, not before", """
                program("pass 0") = -1006 program("pass 0 x;") = -1007 program("pass 0 0;") = -1007
                """);
        Script.run("Programs: a command that is refused fails before a token behind it that is not allowed", """
                program("pass 0;x") = -1000 program("keeper 0;pass 0;;") = -1009
                """);
        Script.run("Programs: a token that is not allowed fails before a command behind it that would be refused", """
                program("x;pass 0;") = -1000 program("keeper 0;x;pass 0;") = -1009
                """);
        Script.run("Programs: commands are run one by one, each in the state that those before it made", """
                program("out 0 0 0;rock 0 9 1;keeper 0;") = -1000 program("rock 0 9 1;out 0 0 0;keeper 0;") = -1011
                program("rock 0 9 1;keeper 0;out 0 0 0;pass 1;swell 0 1;") = -1037 program("rock 0 9 1;keeper 0;swell 0 1;pass 1;") = 4
                """);
    }

    private static void refusedCommands() {
        Script.run("Programs: a rock that is refused", """
                program(" rock 100 9 1;") = -1001 program(" rock 0 10 1;") = -1001 program(" rock 0 9 0;") = -1001
                program(" rock 0 9 4;") = -1001 program("rock 0 9 1;rock 0 9 1;rock 0 9 1;rock 0 9 1;") = -1033
                program("rock 99 9 3;rock 0 0 1;rock 0 9 1;") = 3 program(" rock 0 9 1;") = -1001
                """);
        Script.run("Programs: a keeper who is refused", """
                program(" keeper 3;") = -1001 program("keeper 0;keeper 0;keeper 0;keeper 0;keeper 0;keeper 0;keeper 0;keeper 0;") = 8
                program(" keeper 0;") = -1001
                """);
        Script.run("Programs: a swell that is refused", """
                program(" swell 200 0;") = -1001 program(" swell 0 10;") = -1001 program("pass 1; swell 0 0;") = -1008
                program("pass 1; swell 1 0;") = 2
                """);
        Script.run("Programs: a pass that is refused", """
                program(" pass 0;") = -1001 program(" pass 61;") = -1001 program("pass 60;pass 60;pass 60;pass 20;") = -1024
                program("pass 60;pass 60;pass 60;pass 19;") = 4 program(" pass 1;") = -1001
                """);
        Script.run("Programs: missed turns are no failure of a pass", """
                program("rock 99 9 1;bring 0 0 0 1;bring 0 0 0 1;pass 1;") = 4 count(7) = 2 program("pass 60;") = 1 count(7) = 122
                """);
        Script.run("Programs: no answer but an error code is a failure", """
                program("rock 0 0 1;keeper 0;swell 0 0;swell 0 9;pass 1;") = 5
                """);
    }

    private static void refusedTurns() {
        Script.run("Programs: a relief that is refused", """
                program("rock 0 9 1;keeper 0;keeper 0;pass 3;") = 4 program(" relief 1 5 0 1;") = -1001 program(" relief 0 200 0 1;") = -1001
                program(" relief 0 5 2 1;") = -1001 program(" relief 0 5 0 2;") = -1001 program(" relief 0 5 1 1;") = -1001
                program(" relief 0 2 0 1;") = -1001 program(" relief 0 3 0 1;") = 1
                """);
        Script.run("Programs: an out that is refused", """
                program("rock 0 9 1;keeper 0;pass 3;") = 3 program(" out 1 5 0;") = -1001 program(" out 0 200 0;") = -1001
                program(" out 0 5 1;") = -1001 program(" out 0 2 0;") = -1001 program(" out 0 3 0;") = 1
                """);
        Script.run("Programs: an ashore that is refused", """
                program("rock 0 9 1;keeper 0;pass 3;") = 3 program(" ashore 1 5 0;") = -1001 program(" ashore 0 200 0;") = -1001
                program(" ashore 0 5 1;") = -1001 program(" ashore 0 2 0;") = -1001 program(" ashore 0 3 0;") = 1
                """);
        Script.run("Programs: a bring that is refused", """
                program("rock 0 9 1;pass 3;") = 2 program(" bring 1 5 0 1;") = -1001 program(" bring 0 200 0 1;") = -1001
                program(" bring 0 5 3 1;") = -1001 program(" bring 0 5 0 0;") = -1001 program(" bring 0 5 0 301;") = -1001
                program(" bring 0 2 0 1;") = -1001 program(" bring 0 3 0 300;") = 1
                """);
        Script.run("Programs: a thirteenth turn is refused", """
                program("rock 0 9 1;keeper 0;keeper 0;out 0 5 0;ashore 0 5 0;relief 0 5 0 1;bring 0 5 0 1;out 0 5 0;out 0 5 0;out 0 5 0;") = 10
                program("out 0 5 0;out 0 5 0;out 0 5 0;out 0 5 0;out 0 5 0;relief 0 5 0 1;") = -1050
                program("out 0 5 0;out 0 5 0;out 0 5 0;out 0 5 0;out 0 5 0;") = 5 program(" out 0 5 0;") = -1001
                program(" ashore 0 5 0;") = -1001 program(" bring 0 5 0 1;") = -1001 program(" relief 0 5 0 1;") = -1001
                """);
    }

    private static void nothingStays() {
        Script.run("Programs: if one fails, nothing stays of rocks, keepers, turns, swells and days", """
                addRock(0, 9, 2) = 0 come(2) = 0 change(0, 0, 0, 1) = 1 take(0) = 0
                program("rock 0 9 1;keeper 0;bring 0 0 0 9;swell 5 9;out 0 9 1;pass 3;x") = -1061
                program("rock 0 9 1;keeper 0;bring 0 0 0 9;swell 5 9;out 0 9 1;pass 3;pass 0;") = -1061
                program("rock 0 9 1;keeper 0;bring 0 0 0 9;swell 5 9;out 0 9 1;pass 3;pass") = -1065
                """);
        Script.run("Programs: if one fails, nothing stays of stores, leave, missed and dropped turns", """
                program("rock 0 3 1;keeper 2;keeper 1;out 0 0 0;bring 0 0 0 9;relief 0 4 0 1;ashore 0 2 1;swell 3 9;bring 0 3 1 1;") = 9
                pass(1) = 0 setKeep(0, 0, 2) = 0 program("pass 8;x") = -1007 program("pass 8;pass 61;") = -1007
                program("pass 8") = -1006 program("pass 8;") = 1 count(6) = 1 count(7) = 1
                """);
        Script.run("Programs: if one fails that fills everything, nothing stays", """
                program("rock 0 9 1;rock 0 9 1;rock 0 9 1;rock 0 9 1;") = -1033 count(1) = 0
                program("keeper 0;keeper 0;keeper 0;keeper 0;keeper 0;keeper 0;keeper 0;keeper 0;keeper 0;") = -1072 count(2) = 0
                addRock(0, 9, 1) = 0
                program("bring 0 0 0 1;bring 0 0 0 1;bring 0 0 0 1;bring 0 0 0 1;bring 0 0 0 1;bring 0 0 0 1;bring 0 0 0 1;pass 0;") = -1098
                count(3) = 0
                """);
        Script.run("Programs: if one fails, the full history stays, and the snapshots", """
                take(0) = 0 come(0) = 0 take(1) = 0 come(0) = 1 come(0) = 2 come(0) = 3 program("keeper 0;x") = -1009 count(9) = 5
                count(8) = 2 undo() = 4 undo() = 3 undo() = 2 undo() = 1 count(2) = 1 undo() = 0 count(2) = 0
                """);
        Script.run("Programs: one that fails on the last day", """
                pass(60) = 0 pass(60) = 0 pass(60) = 0 pass(19) = 0 program("keeper 0;pass 1;") = -1009 count(2) = 0 count(0) = 199
                program("keeper 0;swell 199 1;swell 198 1;") = -1021 sea(199, 1) = 3 program("keeper 0;swell 199 1;") = 2
                """);
    }
}
