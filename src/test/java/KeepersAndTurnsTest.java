/** Promises 6 to 12: keepers, turns and days that pass; and what the Terms say of a day. */
public final class KeepersAndTurnsTest {
    private KeepersAndTurnsTest() {
    }

    public static void main(String[] arguments) {
        promise6();
        promise7();
        promise8();
        promise9();
        promise10();
        promise11();
        promise12();
        turnsOfADay();
        missedTurns();
        storesOfADay();
        accountsOfADay();
        Script.finish();
    }

    private static void promise6() {
        Script.run("promise 6: come", """
                come(-1) = INVALID come(3) = INVALID come(MIN) = INVALID come(MAX) = INVALID count(2) = 0
                come(0) = 0 come(1) = 1 come(2) = 2 come(0) = 3 come(0) = 4 come(0) = 5 come(0) = 6 count(9) = 5
                come(2) = 7 come(0) = FULL come(3) = INVALID come(-1) = INVALID count(2) = 8 count(4) = 8 count(9) = 5
                keeper(0, 0) = 0 keeper(1, 0) = 1 keeper(2, 0) = 2 keeper(7, 0) = 2 keeper(7, 1) = NONE keeper(7, 2) = 0
                undo() = 4 count(2) = 7
                """);
    }

    private static void promise7() {
        Script.run("promise 7: relieve", """
                come(0) = 0 come(1) = 1 relieve(0, 0, 0, 1) = INVALID
                addRock(0, 9, 1) = 0 relieve(0, 0, 0, 1) = 1 relieve(0, 199, 1, 0) = 2 count(3) = 2 count(9) = 5
                turn(0, 0) = 0 turn(0, 1) = 0 turn(0, 2) = 0 turn(0, 3) = 0 turn(0, 4) = 1 turn(0, 5) = NONE turn(0, 6) = NONE
                turn(1, 2) = 199 turn(1, 3) = 1 turn(1, 4) = 0
                relieve(-1, 0, 0, 1) = INVALID relieve(1, 0, 0, 1) = INVALID relieve(0, -1, 0, 1) = INVALID
                relieve(0, 200, 0, 1) = INVALID relieve(0, 0, -1, 1) = INVALID relieve(0, 0, 2, 1) = INVALID
                relieve(0, 0, 0, -1) = INVALID relieve(0, 0, 0, 2) = INVALID relieve(0, 0, 1, 1) = INVALID
                relieve(0, 0, NONE, 1) = INVALID relieve(0, 0, 0, NONE) = INVALID relieve(MIN, 0, 0, 1) = INVALID
                relieve(0, 0, 0, MAX) = INVALID
                undo() = 4 count(3) = 1
                """);
        Script.run("promise 7: relieve before today and without room", """
                come(0) = 0 come(1) = 1 addRock(0, 9, 1) = 0 pass(3) = 0
                relieve(0, 2, 0, 1) = ILLEGAL relieve(0, 2, 0, 0) = INVALID relieve(0, -1, 0, 1) = INVALID
                relieve(0, 3, 0, 1) = 1 relieve(0, 4, 0, 1) = 2 relieve(0, 4, 0, 1) = 3 relieve(0, 4, 0, 1) = 4
                relieve(0, 4, 0, 1) = 5 relieve(0, 4, 0, 1) = 6 relieve(0, 4, 0, 1) = 7 relieve(0, 4, 0, 1) = 8
                relieve(0, 4, 0, 1) = 9 relieve(0, 4, 0, 1) = 10 relieve(0, 4, 0, 1) = 11 relieve(0, 199, 0, 1) = 12
                relieve(0, 4, 0, 1) = FULL relieve(0, 2, 0, 1) = ILLEGAL relieve(0, 4, 0, 2) = INVALID
                change(0, 4, 0, 1) = FULL change(0, 2, 0, 1) = ILLEGAL change(0, 2, 2, 1) = INVALID
                bring(0, 4, 0, 1) = FULL bring(0, 2, 0, 1) = ILLEGAL bring(0, 2, 0, 0) = INVALID
                count(3) = 12 rock(0, 4) = 12
                """);
    }

    private static void promise8() {
        Script.run("promise 8: change", """
                come(0) = 0 change(0, 0, 0, 1) = INVALID
                addRock(0, 9, 1) = 0 change(0, 0, 0, 1) = 1 change(0, 199, 0, 0) = 2 count(9) = 4
                turn(0, 0) = 1 turn(0, 1) = 0 turn(0, 2) = 0 turn(0, 3) = NONE turn(0, 4) = 0 turn(0, 5) = NONE
                turn(0, 6) = NONE turn(1, 2) = 199 turn(1, 3) = 0 turn(1, 4) = NONE
                change(-1, 0, 0, 1) = INVALID change(1, 0, 0, 1) = INVALID change(0, -1, 0, 1) = INVALID
                change(0, 200, 0, 1) = INVALID change(0, 0, -1, 1) = INVALID change(0, 0, 1, 1) = INVALID
                change(0, 0, 0, -1) = INVALID change(0, 0, 0, 2) = INVALID change(0, 0, NONE, 0) = INVALID
                change(0, 0, 0, MIN) = INVALID change(0, MAX, 0, 0) = INVALID
                pass(1) = 0 change(0, 0, 0, 0) = ILLEGAL change(0, 0, 0, 2) = INVALID change(0, 1, 0, 0) = 2
                """);
    }

    private static void promise9() {
        Script.run("promise 9: bring", """
                bring(0, 0, 0, 1) = INVALID
                addRock(0, 9, 1) = 0 bring(0, 0, 0, 1) = 1 bring(0, 199, 2, 300) = 2 bring(0, 7, 1, 5) = 3 count(9) = 4
                turn(0, 0) = 2 turn(0, 1) = 0 turn(0, 2) = 0 turn(0, 3) = NONE turn(0, 4) = NONE turn(0, 5) = 0
                turn(0, 6) = 1 turn(1, 2) = 199 turn(1, 5) = 2 turn(1, 6) = 300 turn(2, 5) = 1
                bring(-1, 0, 0, 1) = INVALID bring(1, 0, 0, 1) = INVALID bring(0, -1, 0, 1) = INVALID
                bring(0, 200, 0, 1) = INVALID bring(0, 0, -1, 1) = INVALID bring(0, 0, 3, 1) = INVALID
                bring(0, 0, 0, 0) = INVALID bring(0, 0, 0, 301) = INVALID bring(0, 0, 0, MIN) = INVALID
                bring(0, 0, 0, MAX) = INVALID bring(0, 0, NONE, 1) = INVALID
                pass(1) = 0 bring(0, 0, 0, 1) = ILLEGAL bring(0, 0, 0, 301) = INVALID bring(0, 1, 0, 1) = 3
                """);
    }

    private static void promise10() {
        Script.run("promise 10: cancel", """
                cancel(0) = INVALID addRock(0, 9, 1) = 0
                bring(0, 5, 0, 1) = 1 bring(0, 5, 0, 2) = 2 bring(0, 5, 0, 3) = 3 bring(0, 5, 0, 4) = 4
                cancel(-1) = INVALID cancel(4) = INVALID cancel(MIN) = INVALID cancel(MAX) = INVALID
                cancel(1) = 3 turn(0, 6) = 1 turn(1, 6) = 3 turn(2, 6) = 4 turn(3, 6) = INVALID cancel(3) = INVALID
                count(9) = 5 undo() = 4 turn(1, 6) = 2 turn(3, 6) = 4
                cancel(3) = 3 cancel(0) = 2 turn(0, 6) = 2 turn(1, 6) = 3 cancel(1) = 1 cancel(0) = 0 cancel(0) = INVALID
                count(5) = 0 count(6) = 0 bring(0, 5, 1, 9) = 1 turn(0, 5) = 1 turn(0, 6) = 9 turn(0, 3) = NONE
                """);
    }

    private static void promise11() {
        Script.run("promise 11: exchange", """
                addRock(0, 9, 3) = 0 come(0) = 0 come(0) = 1 come(0) = 2 come(0) = 3
                relieve(0, 5, 0, 1) = 1 relieve(0, 6, 2, 3) = 2 change(0, 7, 1, 1) = 3 bring(0, 8, 0, 1) = 4
                exchange(0, 1) = 3 turn(0, 3) = 0 turn(0, 4) = 3 turn(1, 3) = 2 turn(1, 4) = 1 turn(0, 2) = 5 turn(1, 2) = 6
                exchange(1, 0) = 3 turn(0, 4) = 1 turn(1, 4) = 3
                exchange(0, 0) = INVALID exchange(2, 2) = INVALID exchange(0, 4) = INVALID exchange(4, 0) = INVALID
                exchange(-1, 0) = INVALID exchange(0, -1) = INVALID exchange(MAX, MIN) = INVALID
                exchange(0, 2) = ILLEGAL exchange(2, 0) = ILLEGAL exchange(0, 3) = ILLEGAL exchange(2, 3) = ILLEGAL
                exchange(3, 3) = INVALID count(9) = 5 undo() = 4 turn(0, 4) = 3
                """);
        Script.run("promise 11: a keeper who would come ashore and go out by the same relief", """
                addRock(0, 9, 3) = 0 come(0) = 0 come(0) = 1 come(0) = 2
                relieve(0, 5, 0, 1) = 1 relieve(0, 6, 1, 2) = 2 relieve(0, 7, 2, 1) = 3 relieve(0, 8, 0, 2) = 4
                exchange(0, 1) = ILLEGAL exchange(1, 0) = ILLEGAL exchange(0, 3) = 2 exchange(2, 3) = 1
                turn(0, 4) = 2 turn(2, 4) = 1 turn(3, 4) = 1 exchange(0, 2) = ILLEGAL
                """);
    }

    private static void promise12() {
        Script.run("promise 12: pass", """
                pass(0) = INVALID pass(61) = INVALID pass(-1) = INVALID pass(MIN) = INVALID pass(MAX) = INVALID
                pass(1) = 0 count(0) = 1 pass(60) = 0 count(0) = 61 pass(60) = 0 pass(60) = 0 count(0) = 181
                pass(19) = ILLEGAL pass(60) = ILLEGAL pass(61) = INVALID pass(0) = INVALID count(0) = 181 pass(18) = 0
                count(0) = 199 pass(1) = ILLEGAL pass(0) = INVALID count(9) = 5 undo() = 4 count(0) = 181
                """);
        Script.run("promise 12: the turns that are missed, each on each day", """
                addRock(51, 9, 1) = 0 bring(0, 1, 0, 1) = 1 bring(0, 3, 0, 1) = 2 setTide(6, 51) = 50
                pass(1) = 0 pass(3) = 4 count(7) = 4 turn(0, 2) = 4 turn(1, 2) = 4 pass(3) = 4 count(7) = 8 count(5) = 2
                count(3) = 0 rock(0, 5) = 5 store(0, 0, 0) = 2
                """);
    }

    private static void turnsOfADay() {
        Script.run("a day: turns are gone through in their row", """
                addRock(0, 9, 1) = 0 come(0) = 0 come(0) = 1 change(0, 0, 0, 1) = 1 relieve(0, 0, 0, 1) = 2
                change(0, 0, 0, 1) = 3 change(0, 0, 1, 0) = 4 change(0, 0, 0, 1) = 5 pass(1) = 0
                count(5) = 4 count(6) = 1 count(3) = 0 keeper(0, 1) = 0 keeper(1, 1) = NONE rock(0, 3) = 1
                """);
        Script.run("a day: what cannot be done is dropped, and nothing else happens", """
                addRock(0, 9, 1) = 0 addRock(0, 9, 1) = 1 come(0) = 0 come(0) = 1 come(0) = 2 come(0) = 3
                change(0, 0, 0, 1) = 1 change(1, 0, 1, 1) = 2 pass(1) = 0 count(5) = 2
                change(0, 1, 2, 1) = 1 change(0, 1, 2, 0) = 2 change(1, 1, 0, 0) = 3 change(1, 1, 0, 1) = 4
                relieve(0, 1, 2, 3) = 5 relieve(0, 1, 0, 1) = 6 relieve(1, 1, 0, 3) = 7 relieve(0, 1, 1, 2) = 8
                pass(1) = 0 count(6) = 8 count(5) = 2 count(7) = 0 count(3) = 0 rock(0, 6) = 0 rock(1, 6) = 1 count(4) = 2
                rock(0, 5) = 0 relieve(0, 2, 0, 3) = 1 pass(1) = 0 rock(0, 6) = 3 keeper(0, 1) = NONE count(5) = 3
                """);
        Script.run("a day: a relief needs no post that is free before", """
                addRock(0, 9, 2) = 0 come(0) = 0 come(0) = 1 come(0) = 2 come(0) = 3
                change(0, 0, 0, 1) = 1 change(0, 0, 1, 1) = 2 change(0, 0, 2, 1) = 3 relieve(0, 0, 1, 2) = 4
                relieve(0, 0, 0, 3) = 5 pass(1) = 0 count(5) = 4 count(6) = 1 rock(0, 3) = 2 rock(0, 6) = 2
                """);
        Script.run("a day: turns for other days stay, in their order", """
                addRock(0, 9, 1) = 0 bring(0, 2, 0, 1) = 1 bring(0, 0, 0, 2) = 2 bring(0, 1, 0, 3) = 3 bring(0, 0, 0, 4) = 4
                bring(0, 1, 0, 5) = 5 pass(1) = 0 count(3) = 3 turn(0, 6) = 1 turn(1, 6) = 3 turn(2, 6) = 5
                store(0, 0, 0) = 6 pass(1) = 0 count(3) = 1 turn(0, 6) = 1 turn(0, 2) = 2 store(0, 0, 0) = 14
                """);
        Script.run("a day: a turn for day 199 stays", """
                addRock(0, 9, 1) = 0 bring(0, 199, 0, 1) = 1 bring(0, 198, 0, 2) = 2 setSwell(197, 9) = 3
                pass(60) = 0 pass(60) = 0 pass(60) = 0 pass(19) = 0 count(0) = 199 count(3) = 1 turn(0, 2) = 199
                store(0, 0, 0) = 2 pass(1) = ILLEGAL bring(0, 199, 0, 1) = 2 bring(0, 198, 0, 1) = ILLEGAL
                """);
    }

    private static void missedTurns() {
        Script.run("a day: a turn is missed whether it could be done or not, in its place", """
                addRock(60, 3, 1) = 0 addRock(0, 2, 1) = 1 addRock(50, 3, 1) = 2 come(0) = 0
                change(0, 0, 0, 0) = 1 change(2, 0, 0, 0) = 2 bring(1, 0, 2, 4) = 3 bring(2, 0, 2, 5) = 4 bring(0, 0, 2, 6) = 5
                pass(1) = 3 count(7) = 3 count(6) = 1 count(5) = 1 count(3) = 3
                turn(0, 1) = 0 turn(0, 2) = 1 turn(1, 1) = 1 turn(1, 2) = 1 turn(2, 6) = 6 turn(2, 2) = 1
                rock(0, 5) = 1 rock(1, 5) = 1 rock(2, 5) = 0
                setTide(1, 60) = 50 setSwell(1, 2) = 3 pass(1) = 0 count(6) = 2 count(5) = 3 rock(0, 5) = 1 rock(1, 5) = 1
                """);
        Script.run("a day: a missed turn may be missed on the day of another one, which comes first in the row", """
                addRock(0, 3, 2) = 0 come(0) = 0 come(0) = 1 come(0) = 2 setSwell(0, 4) = 3
                change(0, 1, 2, 1) = 1 change(0, 0, 0, 1) = 2 change(0, 0, 1, 1) = 3 pass(1) = 2 pass(1) = 0
                keeper(2, 1) = 0 keeper(0, 1) = 0 keeper(1, 1) = NONE count(6) = 1 count(5) = 2
                """);
        Script.run("a day: landing at the bounds of tide and swell", """
                addRock(50, 3, 1) = 0 addRock(51, 3, 1) = 1 addRock(50, 2, 1) = 2
                bring(0, 0, 0, 1) = 1 bring(1, 0, 0, 1) = 2 bring(2, 0, 0, 1) = 3 pass(1) = 2 store(0, 0, 0) = 1
                store(1, 0, 0) = 0 store(2, 0, 0) = 0
                """);
    }

    private static void storesOfADay() {
        Script.run("a day: eaten behind the turns, down to the keep", """
                addRock(0, 9, 3) = 0 addRock(0, 9, 3) = 1 come(0) = 0 come(0) = 1
                change(0, 0, 0, 1) = 1 change(0, 0, 1, 1) = 2 bring(0, 0, 0, 20) = 3 bring(0, 0, 1, 12) = 4 bring(0, 0, 2, 3) = 5
                bring(1, 0, 0, 9) = 6 pass(1) = 0
                store(0, 0, 0) = 14 store(0, 0, 2) = 6 store(0, 0, 3) = 0 store(0, 0, 4) = 20 store(0, 0, 5) = 6
                store(0, 1, 0) = 7 store(0, 1, 2) = 5 store(0, 1, 3) = 0 store(0, 1, 4) = 12 store(0, 1, 5) = 5
                store(0, 2, 0) = 0 store(0, 2, 2) = 3 store(0, 2, 3) = 1 store(0, 2, 4) = 3 store(0, 2, 5) = 4
                store(1, 0, 0) = 9 store(1, 0, 2) = 0 store(1, 0, 3) = 0 store(1, 0, 5) = 0 store(1, 1, 5) = 0 store(1, 1, 3) = 0
                setKeep(0, 0, 10) = 0 setKeep(0, 1, 7) = 0 pass(1) = 0
                store(0, 0, 0) = 10 store(0, 0, 2) = 10 store(0, 0, 3) = 2 store(0, 1, 0) = 7 store(0, 1, 2) = 5 store(0, 1, 3) = 5
                store(0, 2, 2) = 3 store(0, 2, 3) = 5
                change(0, 2, 0, 0) = 1 change(0, 2, 1, 0) = 2 pass(1) = 0 store(0, 0, 3) = 2 store(0, 1, 3) = 5 store(0, 2, 3) = 5
                """);
        Script.run("a day: what would be above 999 is left behind", """
                addRock(0, 9, 1) = 0 bring(0, 0, 0, 300) = 1 bring(0, 0, 0, 300) = 2 bring(0, 0, 0, 300) = 3 bring(0, 0, 0, 98) = 4
                pass(1) = 0 store(0, 0, 0) = 998 store(0, 0, 4) = 998 bring(0, 1, 0, 2) = 1 bring(0, 1, 0, 1) = 2 pass(1) = 0
                store(0, 0, 0) = 999 store(0, 0, 4) = 999 count(5) = 6 count(6) = 0
                """);
    }

    private static void accountsOfADay() {
        Script.run("a day: units, days out, leave and idle days", """
                addRock(0, 3, 3) = 0 addRock(0, 9, 1) = 1 come(0) = 0 come(1) = 1 come(2) = 2 come(2) = 3
                change(0, 0, 0, 1) = 1 change(0, 0, 1, 1) = 2 change(0, 0, 2, 1) = 3 change(1, 0, 3, 1) = 4
                setSwell(1, 4) = 3 pass(1) = 0
                keeper(0, 2) = 0 keeper(1, 2) = 2 keeper(2, 2) = 3 keeper(3, 2) = 3 keeper(0, 3) = 1 keeper(0, 6) = 0
                bring(0, 1, 0, 1) = 1 bring(0, 1, 0, 1) = 2 pass(1) = 2
                keeper(0, 2) = 0 keeper(0, 3) = 2 keeper(0, 4) = 1 keeper(1, 2) = 6 keeper(1, 3) = 2 keeper(1, 4) = 1
                keeper(2, 2) = 9 keeper(2, 4) = 1 keeper(3, 2) = 6 keeper(3, 4) = 0 rock(0, 5) = 1 rock(1, 5) = 0
                change(0, 2, 0, 0) = 3 change(0, 2, 1, 0) = 4 change(0, 2, 2, 0) = 5 pass(1) = 0
                keeper(0, 2) = 0 keeper(0, 5) = 0 keeper(0, 6) = 1 keeper(1, 2) = 2 keeper(1, 5) = 1 keeper(1, 6) = 0
                keeper(2, 2) = 5 keeper(2, 5) = 1 keeper(2, 3) = 2 keeper(3, 2) = 9 keeper(3, 3) = 3
                pass(2) = 0 keeper(1, 5) = 1 keeper(1, 6) = 2 keeper(1, 2) = 2 keeper(2, 5) = 2 keeper(2, 6) = 1 keeper(2, 2) = 1
                """);
        Script.run("a day: four units are enough for a day of leave", """
                addRock(0, 9, 1) = 0 come(1) = 0 change(0, 0, 0, 1) = 1 change(0, 2, 0, 0) = 2 pass(2) = 0 keeper(0, 2) = 4
                pass(1) = 0 keeper(0, 2) = 0 keeper(0, 5) = 1 keeper(0, 6) = 0 pass(1) = 0 keeper(0, 6) = 1 keeper(0, 5) = 1
                """);
    }
}
