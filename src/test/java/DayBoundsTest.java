/** The boundary cases of "A day", a run for each sentence. */
public final class DayBoundsTest {
    private DayBoundsTest() {
    }

    public static void main(String[] arguments) {
        turnsOfTheDay();
        missedTurns();
        doubledDays();
        keepersWhoComeAshore();
        keepersWhoGoOut();
        posts();
        droppedTurns();
        deliveries();
        eaten();
        daysOut();
        leave();
        nextDay();
        Script.finish();
    }

    private static void turnsOfTheDay() {
        Script.run("A day 1: the turns for this day, not those for the day before or behind it", """
                addRock(0, 9, 1) = 0 pass(4) = 0 bring(0, 5, 0, 1) = 1 bring(0, 4, 0, 20) = 2 bring(0, 6, 0, 300) = 3
                pass(1) = 0 store(0, 0, 0) = 20 count(3) = 2 pass(1) = 0 store(0, 0, 0) = 21 count(3) = 1 turn(0, 6) = 300
                pass(1) = 0 store(0, 0, 0) = 321 count(3) = 0
                """);
        Script.run("A day 1: the turns are gone through in their row", """
                addRock(0, 9, 1) = 0 come(0) = 0 come(2) = 1 come(1) = 2
                change(0, 0, 1, 1) = 1 change(0, 0, 0, 1) = 2 change(0, 0, 1, 0) = 3 change(0, 0, 2, 1) = 4 pass(1) = 0
                rock(0, 6) = 2 count(5) = 3 count(6) = 1
                """);
        Script.run("A day 1: a day without turns, rocks and keepers", """
                pass(1) = 0 count(0) = 1 count(5) = 0 count(6) = 0 count(7) = 0
                """);
        Script.run("A day 1: twelve turns are gone through on one day", """
                program("rock 0 9 1;bring 0 0 0 1;bring 0 0 0 1;bring 0 0 0 1;bring 0 0 0 1;bring 0 0 0 1;bring 0 0 0 1;bring 0 0 0 1;") = 8
                program("bring 0 0 1 1;bring 0 0 1 1;bring 0 0 1 1;bring 0 0 1 1;bring 0 0 2 1;") = 5 count(3) = 12 pass(1) = 0
                count(5) = 12 count(3) = 0 store(0, 0, 0) = 7 store(0, 1, 0) = 4 store(0, 2, 0) = 1
                """);
        Script.run("A day 1: a turn is done and removed", """
                addRock(0, 9, 1) = 0 come(0) = 0 change(0, 0, 0, 1) = 1 pass(1) = 0 count(5) = 1 count(6) = 0 count(3) = 0
                turn(0, 0) = INVALID keeper(0, 1) = 0
                """);
    }

    private static void missedTurns() {
        Script.run("A day 1: a turn that could be done is missed if no landing is possible", """
                addRock(51, 9, 1) = 0 come(0) = 0 change(0, 0, 0, 1) = 1 bring(0, 0, 0, 1) = 2 pass(1) = 2 count(7) = 2 count(3) = 2
                count(5) = 0 count(6) = 0 keeper(0, 1) = NONE store(0, 0, 0) = 0
                """);
        Script.run("A day 1: a turn that could not be done is missed, not dropped, if no landing is possible", """
                addRock(51, 9, 1) = 0 come(0) = 0 come(0) = 1 change(0, 0, 0, 0) = 1 relieve(0, 0, 0, 1) = 2 pass(1) = 2 count(7) = 2
                count(3) = 2 count(6) = 0 setTide(1, 51) = 50 pass(1) = 0 count(6) = 2 count(7) = 2 count(3) = 0
                """);
        Script.run("A day 1: a missed turn is for the next day from now on", """
                addRock(0, 3, 1) = 0 bring(0, 1, 0, 1) = 1 setSwell(1, 4) = 3 setSwell(2, 4) = 3 pass(1) = 0 turn(0, 2) = 1
                pass(1) = 1 turn(0, 2) = 2 pass(1) = 1 turn(0, 2) = 3 pass(1) = 0 count(3) = 0 count(5) = 1 count(7) = 2
                """);
        Script.run("A day 1: a missed turn is tried once on a day", """
                addRock(99, 9, 1) = 0 bring(0, 0, 0, 1) = 1 pass(60) = 60 turn(0, 2) = 60 count(7) = 60 count(3) = 1 rock(0, 5) = 60
                """);
        Script.run("A day 1: a missed turn keeps its place in the row", """
                addRock(0, 9, 2) = 0 addRock(0, 2, 2) = 1 bring(0, 0, 0, 1) = 1 bring(1, 0, 0, 2) = 2 bring(0, 0, 0, 3) = 3
                bring(0, 9, 0, 4) = 4 bring(1, 0, 0, 5) = 5 bring(0, 1, 0, 6) = 6 pass(1) = 2 count(3) = 4
                turn(0, 6) = 2 turn(1, 6) = 4 turn(2, 6) = 5 turn(3, 6) = 6 turn(0, 2) = 1 turn(1, 2) = 9 turn(2, 2) = 1
                """);
        Script.run("A day 1: a missed turn in front in the row comes before those that are for the next day", """
                addRock(0, 3, 1) = 0 come(0) = 0 come(0) = 1 setSwell(0, 4) = 3 change(0, 0, 0, 1) = 1 change(0, 1, 1, 1) = 2
                pass(2) = 1 rock(0, 6) = 0 count(6) = 1
                """);
        Script.run("A day 1: a missed turn behind in the row comes behind those that are for the next day", """
                addRock(0, 3, 1) = 0 come(0) = 0 come(0) = 1 setSwell(0, 4) = 3 change(0, 1, 0, 1) = 1 change(0, 0, 1, 1) = 2
                pass(2) = 1 rock(0, 6) = 0 count(6) = 1
                """);
        Script.run("A day 1: a turn that is missed on day 198 is for day 199, and stays", """
                addRock(99, 9, 1) = 0 pass(60) = 0 pass(60) = 0 pass(60) = 0 bring(0, 197, 0, 1) = 1 bring(0, 198, 0, 2) = 2 pass(18) = 1
                turn(0, 2) = 198 turn(1, 2) = 198 pass(1) = 2 turn(0, 2) = 199 turn(1, 2) = 199 count(0) = 199 pass(1) = ILLEGAL
                count(3) = 2 rock(0, 5) = 2
                """);
        Script.run("A day 1: on one day a landing may be possible on one rock and not on the other", """
                addRock(50, 3, 1) = 0 addRock(51, 3, 1) = 1 bring(0, 0, 0, 1) = 1 bring(1, 0, 0, 1) = 2 pass(1) = 1
                count(5) = 1 count(3) = 1 turn(0, 1) = 1 rock(0, 5) = 0 rock(1, 5) = 1
                """);
    }

    private static void doubledDays() {
        Script.run("A day 1: a day is doubled once, however many turns are missed", """
                program("rock 0 9 1;rock 0 2 1;keeper 2;out 0 0 0;bring 1 0 0 1;bring 1 0 1 1;bring 1 0 2 1;bring 1 0 0 1;") = 8
                pass(1) = 4 rock(1, 5) = 1 rock(0, 5) = 0 keeper(0, 2) = 3 keeper(0, 4) = 0 pass(2) = 8 rock(1, 5) = 3 count(7) = 12
                """);
        Script.run("A day 1: a keeper's day is doubled once, however many turns are missed", """
                program("rock 0 3 1;keeper 2;out 0 0 0;swell 1 4;bring 0 1 0 1;bring 0 1 0 1;bring 0 1 0 1;pass 1;") = 8
                keeper(0, 2) = 3 pass(1) = 3 keeper(0, 2) = 9 keeper(0, 3) = 2 keeper(0, 4) = 1 rock(0, 5) = 1
                """);
        Script.run("A day 1: this day is doubled, not the next one", """
                program("rock 0 3 1;keeper 1;out 0 0 0;swell 1 4;bring 0 1 0 1;pass 1;") = 6
                pass(1) = 1 rock(0, 5) = 1 keeper(0, 2) = 6 pass(1) = 0 rock(0, 5) = 1 keeper(0, 2) = 8 keeper(0, 4) = 1
                """);
        Script.run("A day 1: a day without turns is not doubled, though no landing is possible", """
                program("rock 0 3 1;keeper 1;out 0 0 0;swell 1 4;bring 0 2 0 1;pass 1;") = 6
                pass(1) = 0 rock(0, 5) = 0 keeper(0, 2) = 4 keeper(0, 4) = 0
                """);
        Script.run("A day 1: a day is doubled on this rock alone", """
                program("rock 0 3 1;rock 0 9 1;keeper 1;keeper 1;out 0 0 0;out 1 0 1;swell 1 4;bring 0 1 0 1;pass 1;") = 9
                pass(1) = 1 rock(0, 5) = 1 rock(1, 5) = 0 keeper(0, 2) = 6 keeper(1, 2) = 4 keeper(0, 4) = 1 keeper(1, 4) = 0
                """);
        Script.run("A day 1: day 0 can be doubled", """
                addRock(99, 9, 1) = 0 bring(0, 0, 0, 1) = 1 pass(1) = 1 rock(0, 5) = 1
                """);
        Script.run("A day 1: a day that was undone and is doubled again counts once", """
                addRock(99, 9, 1) = 0 bring(0, 0, 0, 1) = 1 take(0) = 0 pass(1) = 1 rock(0, 5) = 1 undo() = 3 rock(0, 5) = 0 pass(1) = 1
                rock(0, 5) = 1 restore(0) = 0 rock(0, 5) = 0 pass(2) = 2 rock(0, 5) = 2
                """);
    }

    private static void keepersWhoComeAshore() {
        Script.run("A day 1: a keeper who comes ashore has to be on this rock, and is ashore already", """
                addRock(0, 9, 1) = 0 come(0) = 0 change(0, 0, 0, 0) = 1 pass(1) = 0 count(6) = 1 count(5) = 0 count(3) = 0
                keeper(0, 1) = NONE
                """);
        Script.run("A day 1: a keeper who comes ashore has to be on this rock, and is on another one", """
                addRock(0, 9, 1) = 0 addRock(0, 9, 1) = 1 come(0) = 0 change(1, 0, 0, 1) = 1 change(0, 0, 0, 0) = 2 pass(1) = 0
                count(6) = 1 count(5) = 1 keeper(0, 1) = 1
                """);
        Script.run("A day 1: a keeper who comes ashore has to be on this rock, and is", """
                addRock(0, 9, 1) = 0 addRock(0, 9, 1) = 1 come(0) = 0 change(1, 0, 0, 1) = 1 change(1, 0, 0, 0) = 2 pass(1) = 0
                count(6) = 0 count(5) = 2 keeper(0, 1) = NONE
                """);
        Script.run("A day 1: a keeper who comes ashore by a relief has to be on this rock, and is ashore", """
                addRock(0, 9, 1) = 0 come(0) = 0 come(0) = 1 relieve(0, 0, 0, 1) = 1 pass(1) = 0 count(6) = 1 count(5) = 0
                keeper(0, 1) = NONE keeper(1, 1) = NONE
                """);
        Script.run("A day 1: a keeper who comes ashore by a relief has to be on this rock, and is on another one", """
                addRock(0, 9, 1) = 0 addRock(0, 9, 1) = 1 come(0) = 0 come(0) = 1 change(1, 0, 0, 1) = 1 relieve(0, 0, 0, 1) = 2 pass(1) = 0
                count(6) = 1 count(5) = 1 keeper(0, 1) = 1 keeper(1, 1) = NONE
                """);
    }

    private static void keepersWhoGoOut() {
        Script.run("A day 1: a keeper who goes out has to be ashore, and is on this rock", """
                addRock(0, 9, 2) = 0 come(0) = 0 change(0, 0, 0, 1) = 1 change(0, 0, 0, 1) = 2 pass(1) = 0 count(6) = 1 count(5) = 1
                keeper(0, 1) = 0 rock(0, 3) = 1
                """);
        Script.run("A day 1: a keeper who goes out has to be ashore, and is on another rock", """
                addRock(0, 9, 1) = 0 addRock(0, 9, 1) = 1 come(0) = 0 change(1, 0, 0, 1) = 1 change(0, 0, 0, 1) = 2 pass(1) = 0
                count(6) = 1 count(5) = 1 keeper(0, 1) = 1
                """);
        Script.run("A day 1: a keeper who goes out by a relief has to be ashore, and is on this rock", """
                addRock(0, 9, 2) = 0 come(0) = 0 come(0) = 1 change(0, 0, 0, 1) = 1 change(0, 0, 1, 1) = 2 relieve(0, 0, 0, 1) = 3
                pass(1) = 0 count(6) = 1 count(5) = 2 keeper(0, 1) = 0 keeper(1, 1) = 0
                """);
        Script.run("A day 1: a keeper who goes out by a relief has to be ashore, and is on another rock", """
                addRock(0, 9, 2) = 0 addRock(0, 9, 2) = 1 come(0) = 0 come(0) = 1 change(0, 0, 0, 1) = 1 change(1, 0, 1, 1) = 2
                relieve(0, 0, 0, 1) = 3 pass(1) = 0 count(6) = 1 count(5) = 2 keeper(0, 1) = 0 keeper(1, 1) = 1
                """);
        Script.run("A day 1: a keeper who has come ashore may go out on the same day", """
                addRock(0, 9, 1) = 0 addRock(0, 9, 1) = 1 come(2) = 0 change(0, 0, 0, 1) = 1 change(0, 0, 0, 0) = 2 change(1, 0, 0, 1) = 3
                pass(1) = 0 count(5) = 3 keeper(0, 1) = 1 keeper(0, 3) = 1 keeper(0, 2) = 3
                """);
    }

    private static void posts() {
        Script.run("A day 1: there has to be a post that is free, of one", """
                program("rock 0 9 1;keeper 0;keeper 0;out 0 0 0;pass 1;") = 5 count(5) = 1 change(0, 1, 1, 1) = 1 pass(1) = 0
                count(5) = 1 count(6) = 1 keeper(1, 1) = NONE program("ashore 0 2 0;out 0 2 1;pass 1;") = 3 count(5) = 3 keeper(1, 1) = 0
                """);
        Script.run("A day 1: there has to be a post that is free, of two", """
                program("rock 0 9 2;keeper 0;keeper 0;keeper 0;out 0 0 0;out 0 0 1;pass 1;") = 7 count(5) = 2 change(0, 1, 2, 1) = 1
                pass(1) = 0 count(5) = 2 count(6) = 1 keeper(2, 1) = NONE program("ashore 0 2 0;out 0 2 2;pass 1;") = 3 count(5) = 4
                keeper(2, 1) = 0
                """);
        Script.run("A day 1: there has to be a post that is free, of three", """
                program("rock 0 9 3;keeper 0;keeper 0;keeper 0;keeper 0;out 0 0 0;out 0 0 1;out 0 0 2;pass 1;") = 9 count(5) = 3
                change(0, 1, 3, 1) = 1 pass(1) = 0 count(5) = 3 count(6) = 1 keeper(3, 1) = NONE
                program("ashore 0 2 0;out 0 2 3;pass 1;") = 3 count(5) = 5 keeper(3, 1) = 0
                """);
        Script.run("A day 1: the post of the one who comes ashore by a relief is free then, of one", """
                program("rock 0 9 1;keeper 0;keeper 0;out 0 0 0;relief 0 0 0 1;pass 1;") = 6 count(5) = 2 keeper(0, 1) = NONE
                keeper(1, 1) = 0
                """);
        Script.run("A day 1: the post of the one who comes ashore by a relief is free then, of three", """
                program("rock 0 9 3;keeper 0;keeper 0;keeper 0;keeper 0;out 0 0 0;out 0 0 1;out 0 0 2;relief 0 0 1 3;pass 1;") = 10
                count(5) = 4 keeper(1, 1) = NONE keeper(3, 1) = 0 rock(0, 3) = 3
                """);
        Script.run("A day 1: posts of another rock are not counted", """
                program("rock 0 9 1;rock 0 9 1;keeper 0;keeper 0;out 0 0 0;out 1 0 1;pass 1;") = 7 count(5) = 2 keeper(1, 1) = 1
                """);
    }

    private static void droppedTurns() {
        Script.run("A day 1: of a relief that is dropped nothing happens, though one could come ashore", """
                program("rock 0 9 2;keeper 1;keeper 1;out 0 0 0;out 0 0 1;relief 0 1 0 1;pass 1;") = 7 pass(1) = 0 count(6) = 1
                keeper(0, 1) = 0 keeper(0, 3) = 2 keeper(0, 4) = 0 keeper(0, 2) = 4 rock(0, 5) = 0 count(7) = 0 count(3) = 0
                """);
        Script.run("A day 1: of a relief that is dropped nothing happens, though one could go out", """
                addRock(0, 9, 2) = 0 come(1) = 0 come(1) = 1 relieve(0, 0, 0, 1) = 1 pass(1) = 0 count(6) = 1 keeper(1, 1) = NONE
                keeper(1, 6) = 1 rock(0, 5) = 0 count(5) = 0 count(7) = 0 count(3) = 0
                """);
        Script.run("A day 1: a turn that is dropped is not tried again", """
                addRock(0, 9, 1) = 0 come(0) = 0 change(0, 0, 0, 0) = 1 change(0, 0, 0, 1) = 2 pass(1) = 0 count(6) = 1 count(5) = 1
                pass(5) = 0 count(6) = 1 keeper(0, 1) = 0
                """);
    }

    private static void deliveries() {
        Script.run("A day 1: a delivery can be done without keepers on the rock", """
                addRock(0, 9, 1) = 0 bring(0, 0, 1, 300) = 1 pass(1) = 0 count(5) = 1 store(0, 1, 0) = 300
                """);
        Script.run("A day 1: a delivery can be done when the store is full, and all of it is left behind", """
                program("rock 0 9 1;bring 0 0 2 300;bring 0 0 2 300;bring 0 0 2 300;bring 0 0 2 99;pass 1;") = 6 store(0, 2, 0) = 999
                store(0, 2, 4) = 999 bring(0, 1, 2, 1) = 1 bring(0, 1, 2, 300) = 2 pass(1) = 0 store(0, 2, 0) = 999 store(0, 2, 4) = 999
                count(5) = 6 count(6) = 0 count(3) = 0
                """);
        Script.run("A day 1: what would be above 999 is left behind, and 999 is not above", """
                program("rock 0 9 1;bring 0 0 0 300;bring 0 0 0 300;bring 0 0 0 300;bring 0 0 1 300;bring 0 0 1 300;bring 0 0 1 300;") = 7
                bring(0, 0, 0, 99) = 7 bring(0, 0, 1, 100) = 8 pass(1) = 0 store(0, 0, 0) = 999 store(0, 0, 4) = 999
                store(0, 1, 0) = 999 store(0, 1, 4) = 999 count(5) = 8
                """);
        Script.run("A day 1: deliveries come before the keepers eat", """
                program("rock 0 9 1;keeper 0;out 0 0 0;bring 0 0 0 300;bring 0 0 0 300;bring 0 0 0 300;bring 0 0 0 300;pass 1;") = 8
                store(0, 0, 0) = 996 store(0, 0, 4) = 999 store(0, 0, 2) = 3 store(0, 0, 3) = 0
                """);
    }

    private static void eaten() {
        Script.run("A day 2: exactly what a day needs is eaten, down to 0", """
                program("rock 0 9 1;keeper 0;out 0 0 0;bring 0 0 0 3;bring 0 0 1 5;bring 0 0 2 2;pass 1;") = 7
                store(0, 0, 0) = 0 store(0, 0, 2) = 3 store(0, 0, 3) = 0 store(0, 1, 0) = 0 store(0, 1, 2) = 5 store(0, 1, 3) = 0
                store(0, 2, 0) = 0 store(0, 2, 2) = 2 store(0, 2, 3) = 0
                """);
        Script.run("A day 2: one less than a day needs is eaten, and 1 is lacking", """
                program("rock 0 9 1;keeper 0;out 0 0 0;bring 0 0 0 2;bring 0 0 1 4;bring 0 0 2 1;pass 1;") = 7
                store(0, 0, 0) = 0 store(0, 0, 2) = 2 store(0, 0, 3) = 1 store(0, 1, 0) = 0 store(0, 1, 2) = 4 store(0, 1, 3) = 1
                store(0, 2, 0) = 0 store(0, 2, 2) = 1 store(0, 2, 3) = 1
                """);
        Script.run("A day 2: of one more than a day needs 1 is left", """
                program("rock 0 9 1;keeper 0;out 0 0 0;bring 0 0 0 4;bring 0 0 1 6;bring 0 0 2 3;pass 1;") = 7
                store(0, 0, 0) = 1 store(0, 0, 3) = 0 store(0, 1, 0) = 1 store(0, 1, 3) = 0 store(0, 2, 0) = 1 store(0, 2, 3) = 0
                """);
        Script.run("A day 2: an empty store lacks all that a day needs", """
                program("rock 0 9 1;keeper 0;out 0 0 0;pass 1;") = 4 store(0, 0, 3) = 3 store(0, 1, 3) = 5 store(0, 2, 3) = 2
                store(0, 0, 2) = 0 store(0, 1, 2) = 0 store(0, 2, 2) = 0 store(0, 0, 0) = 0
                """);
        Script.run("A day 2: not so much is eaten that the amount would be less than the keep", """
                program("rock 0 9 1;keeper 0;bring 0 0 0 20;bring 0 0 1 20;bring 0 0 2 20;out 0 1 0;pass 1;") = 7
                setKeep(0, 0, 17) = 0 setKeep(0, 1, 16) = 0 setKeep(0, 2, 20) = 0 pass(1) = 0
                store(0, 0, 0) = 17 store(0, 0, 2) = 3 store(0, 0, 3) = 0 store(0, 1, 0) = 16 store(0, 1, 2) = 4 store(0, 1, 3) = 1
                store(0, 2, 0) = 20 store(0, 2, 2) = 0 store(0, 2, 3) = 2 pass(1) = 0
                store(0, 0, 0) = 17 store(0, 0, 3) = 3 store(0, 1, 0) = 16 store(0, 1, 3) = 6 store(0, 2, 0) = 20 store(0, 2, 3) = 4
                """);
        Script.run("A day 2: the keep of a full store is kept", """
                program("rock 0 9 1;keeper 0;bring 0 0 0 300;bring 0 0 0 300;bring 0 0 0 300;bring 0 0 0 99;out 0 1 0;pass 1;") = 8
                setKeep(0, 0, 999) = 0 pass(3) = 0 store(0, 0, 0) = 999 store(0, 0, 2) = 0 store(0, 0, 3) = 9 setKeep(0, 0, 998) = 999
                pass(1) = 0 store(0, 0, 0) = 998 store(0, 0, 2) = 1 store(0, 0, 3) = 11
                """);
        Script.run("A day 2: a keeper who goes out on this day eats, one who comes ashore does not", """
                program("rock 0 9 1;rock 0 9 1;keeper 0;keeper 0;out 0 0 0;out 1 1 1;ashore 0 1 0;pass 1;") = 8
                store(0, 0, 3) = 3 store(1, 0, 3) = 0 pass(1) = 0 store(0, 0, 3) = 3 store(0, 1, 3) = 5 store(1, 0, 3) = 3 store(1, 1, 3) = 5
                """);
        Script.run("A day 2: of each store of each rock", """
                program("rock 0 9 1;rock 0 9 1;rock 0 9 2;keeper 0;keeper 0;keeper 0;keeper 0;out 0 0 0;out 1 0 1;out 2 0 2;") = 10
                change(2, 0, 3, 1) = 4 pass(1) = 0 store(0, 0, 3) = 3 store(0, 1, 3) = 5 store(0, 2, 3) = 2
                store(1, 0, 3) = 3 store(1, 1, 3) = 5 store(1, 2, 3) = 2 store(2, 0, 3) = 6 store(2, 1, 3) = 5 store(2, 2, 3) = 4
                """);
        Script.run("A day 2: on a doubled day no more is eaten", """
                program("rock 0 3 1;keeper 0;out 0 0 0;swell 1 9;bring 0 1 0 9;pass 2;") = 6 rock(0, 5) = 1 store(0, 0, 3) = 6
                store(0, 1, 3) = 10 store(0, 2, 3) = 4
                """);
    }

    private static void daysOut() {
        Script.run("A day 3: units of an occasional keeper, an assistant and a principal", """
                program("rock 0 9 3;keeper 0;keeper 1;keeper 2;out 0 0 0;out 0 0 1;out 0 0 2;pass 1;") = 8
                keeper(0, 2) = 0 keeper(1, 2) = 2 keeper(2, 2) = 3 keeper(0, 3) = 1 keeper(1, 3) = 1 keeper(2, 3) = 1
                keeper(0, 4) = 0 keeper(1, 4) = 0 keeper(2, 4) = 0
                """);
        Script.run("A day 3: twice as many on a rock on which the day is doubled, and a doubled day", """
                program("rock 0 3 3;keeper 0;keeper 1;keeper 2;out 0 0 0;out 0 0 1;out 0 0 2;swell 1 9;bring 0 1 0 9;pass 1;") = 10
                pass(1) = 1 keeper(0, 2) = 0 keeper(1, 2) = 6 keeper(2, 2) = 9 keeper(0, 3) = 2 keeper(1, 3) = 2 keeper(2, 3) = 2
                keeper(0, 4) = 1 keeper(1, 4) = 1 keeper(2, 4) = 1
                """);
        Script.run("A day 3: the day on which a keeper goes out is a day out, the one on which he comes ashore is none", """
                program("rock 0 9 1;keeper 2;out 0 1 0;ashore 0 3 0;pass 1;") = 5 keeper(0, 3) = 0 keeper(0, 6) = 1 pass(1) = 0
                keeper(0, 3) = 1 pass(1) = 0 keeper(0, 3) = 2 keeper(0, 2) = 6 pass(1) = 0 keeper(0, 3) = 2 keeper(0, 5) = 1 keeper(0, 2) = 2
                """);
        Script.run("A day 3: a keeper on a rock takes no leave", """
                program("rock 0 9 1;keeper 2;out 0 0 0;pass 3;") = 4 keeper(0, 2) = 9 keeper(0, 3) = 3 keeper(0, 5) = 0 keeper(0, 6) = 0
                """);
        Script.run("A day 3: the greatest number of units", """
                program("rock 99 9 1;rock 0 9 1;keeper 2;out 0 0 0;swell 0 1;pass 1;") = 6 cancel(0) = 0 setTide(1, 99) = 50
                change(0, 1, 0, 1) = 1 pass(1) = 0 bring(0, 2, 0, 1) = 1 setTide(1, 50) = 99 pass(60) = 60 pass(60) = 60 pass(60) = 60
                pass(17) = 17 keeper(0, 2) = 1185 keeper(0, 3) = 198 keeper(0, 4) = 197 keeper(0, 6) = 1 rock(0, 5) = 198
                """);
    }

    private static void leave() {
        Script.run("A day 3: with 4 units that are owed a day of leave takes all of them", """
                program("rock 0 9 1;keeper 1;out 0 0 0;ashore 0 2 0;pass 2;") = 5 keeper(0, 2) = 4 pass(1) = 0
                keeper(0, 2) = 0 keeper(0, 5) = 1 keeper(0, 6) = 0 pass(1) = 0 keeper(0, 5) = 1 keeper(0, 6) = 1 keeper(0, 2) = 0
                """);
        Script.run("A day 3: with 3 units that are owed there is an idle day, and they stay", """
                program("rock 0 9 1;keeper 2;out 0 0 0;ashore 0 1 0;pass 1;") = 5 keeper(0, 2) = 3 pass(1) = 0
                keeper(0, 2) = 3 keeper(0, 5) = 0 keeper(0, 6) = 1 pass(1) = 0 keeper(0, 2) = 3 keeper(0, 6) = 2
                """);
        Script.run("A day 3: of 5 units that are owed 1 is left", """
                program("rock 0 9 1;keeper 2;out 0 0 0;ashore 0 3 0;pass 3;") = 5 keeper(0, 2) = 9 pass(1) = 0
                keeper(0, 2) = 5 keeper(0, 5) = 1 pass(1) = 0 keeper(0, 2) = 1 keeper(0, 5) = 2 pass(1) = 0 keeper(0, 2) = 1
                keeper(0, 5) = 2 keeper(0, 6) = 1
                """);
        Script.run("A day 3: without units there is an idle day", """
                come(0) = 0 come(1) = 1 come(2) = 2 pass(1) = 0 keeper(0, 6) = 1 keeper(1, 6) = 1 keeper(2, 6) = 1 keeper(0, 5) = 0
                keeper(1, 5) = 0 keeper(2, 5) = 0 keeper(0, 3) = 0
                """);
        Script.run("A day 3: a doubled day makes no leave of a keeper ashore twice as long", """
                program("rock 0 3 1;keeper 1;keeper 1;out 0 0 0;relief 0 2 0 1;swell 3 9;bring 0 3 0 1;pass 3;") = 8
                keeper(0, 2) = 0 keeper(0, 5) = 1 pass(1) = 1 keeper(0, 2) = 0 keeper(0, 5) = 1 keeper(0, 6) = 1 keeper(0, 4) = 0
                keeper(1, 2) = 6 keeper(1, 4) = 1
                """);
    }

    private static void nextDay() {
        Script.run("A day 4: the next day is today", """
                count(0) = 0 pass(1) = 0 count(0) = 1 pass(1) = 0 count(0) = 2 setSwell(1, 3) = ILLEGAL setSwell(2, 3) = 3
                """);
        Script.run("A day: day 198 passes", """
                pass(60) = 0 pass(60) = 0 pass(60) = 0 pass(18) = 0 count(0) = 198 pass(1) = 0 count(0) = 199
                """);
        Script.run("A day: day 199 does not pass", """
                addRock(0, 9, 1) = 0 bring(0, 199, 0, 1) = 1 pass(60) = 0 pass(60) = 0 pass(60) = 0 pass(19) = 0 count(0) = 199
                pass(1) = ILLEGAL count(0) = 199 count(3) = 1 store(0, 0, 0) = 0 doneOn(0) = NONE program("pass 1;") = -1000
                """);
    }
}
