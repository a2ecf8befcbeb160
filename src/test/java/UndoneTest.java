/** What part 3 of the terms says of broken promises, with promises 6, 10, 14 and 17: what is undone, and what stays. */
public final class UndoneTest {
    private static final int NONE = HourPromised.NONE, NOT = HourPromised.NOT;
    private static final int FETCH = 0, SERVICE = 1, FIRE = 2, GRAVE = 3;
    private static final String LETTERS = "fsbg";

    private static final Due due = new Due();

    public static void main(String[] args) {
        latePaperByTheHour();
        paperThatHasNotCome();
        newLawByItsItems();
        newLawOfSteps();
        chainsInEveryOrder();
        thatCaseAlone();
        casesOfTheFaith();
        whatIsUndoneIsFree();
        undoneAndPromisedAgain();
        undoneSoFar();
        due.end("UndoneTest");
    }

    private static HourPromised houseOf(int cases) {
        HourPromised x = new HourPromised();
        x.house(0, 4);
        for (int c = 0; c < cases; c++) {
            x.casus(0, 10, 0, 0);
        }
        return x;
    }

    private static void stands(HourPromised x, String name, int promises, int undone) {
        due.is(name + ": promises", x.count(2), promises);
        due.is(name + ": undone so far", x.count(3), undone);
    }

    private static void latePaperByTheHour() {
        for (int step = 0; step < 4; step++) {
            for (int paper = 0; paper < 6; paper++) {
                HourPromised x = houseOf(1);
                Due.tellLaw(x, 0, LETTERS.charAt(step) + ":" + (char) ('A' + paper) + ";");
                x.paper(0, paper, 0);
                x.promise(0, step, 50);
                due.is("10 it has come by the hour itself", x.paper(0, paper, 50), 0);
                due.is("10 another paper", x.paper(0, (paper + 1) % 6, 399), 0);
                due.is("10 another paper has not come", x.paper(0, (paper + 5) % 6, NONE), 0);
                stands(x, "10 by the hour", 1, 0);
                due.is("10 an hour too late", x.paper(0, paper, 51), 1);
                due.is("15 it is undone", x.promised(0, step, 0), NONE);
                stands(x, "10 too late", 0, 1);
                due.is("10 the paper is told all the same", x.may(0, step, 50), 4);
                due.is("10 by its new hour", x.may(0, step, 51), 0);
            }
        }
    }

    private static void paperThatHasNotCome() {
        HourPromised x = houseOf(1);
        Due.tellLaw(x, 0, "g:A;");
        x.paper(0, 0, 399);
        x.promise(0, GRAVE, 399);
        due.is("10 told again as it was", x.paper(0, 0, 399), 0);
        due.is("10 told earlier", x.paper(0, 0, 0), 0);
        due.is("10 it has not come", x.paper(0, 0, NONE), 1);
        due.is("10 nothing is left to be undone", x.paper(0, 0, NONE), 0);
        stands(x, "10 not come", 0, 1);
    }

    private static void newLawByItsItems() {
        for (int step = 0; step < 4; step++) {
            lawOf(step, "<40", 0);
            lawOf(step, "<39", 1);
            lawOf(step, ">40", 0);
            lawOf(step, ">41", 1);
            lawOf(step, "<40>40", 0);
            lawOf(step, "<999>0", 0);
            lawOf(step, "!", 1);
            lawOf(step, "A", 0);
            lawOf(step, "B", 1);
            lawOf(step, "C", 1);
            lawOf(step, "AB", 1);
            lawOf(step, "", 0);
        }
    }

    /** A step stands forty hours above death; paper A has come by its hour, B an hour later, the others have not. */
    private static void lawOf(int step, String items, int undone) {
        HourPromised x = houseOf(1);
        x.promise(0, step, 50);
        x.paper(0, 0, 50);
        x.paper(0, 1, 51);
        String text = LETTERS.charAt(step) + ":" + items + ";";
        due.is("6 law " + text, Due.tellLaw(x, 0, text), undone);
        due.is("15 by " + text, x.promised(0, step, 0), undone == 1 ? NONE : 50);
        stands(x, "6 law " + text, 1 - undone, undone);
        due.is("6 the same law again", Due.tellLaw(x, 0, text), 0);
        due.is("6 no law", Due.tellLaw(x, 0, ""), 0);
        stands(x, "6 no law brings nothing back", 1 - undone, undone);
    }

    private static void newLawOfSteps() {
        HourPromised x = houseOf(1);
        x.promise(0, FETCH, 20);
        x.promise(0, SERVICE, 21);
        x.promise(0, GRAVE, 22);
        due.is("6 each is an hour later", Due.tellLaw(x, 0, "s:f;g:fs;"), 0);
        due.is("6 a step that is not promised", Due.tellLaw(x, 0, "s:b;"), 1);
        due.is("6 a step that is later", Due.tellLaw(x, 0, "f:g;"), 1);
        stands(x, "6 steps", 1, 2);
        due.is("6 the only one left", x.promised(0, GRAVE, 0), 22);
        due.is("6 it lacks what has been undone", Due.tellLaw(x, 0, "g:f;"), 1);
    }

    /** In whatever order three steps hang on one another, all fall with the first, and none with the last. */
    private static void chainsInEveryOrder() {
        for (int a = 0; a < 4; a++) {
            for (int b = 0; b < 4; b++) {
                for (int c = 0; c < 4; c++) {
                    boolean both = a + b == 5 || a + c == 5 || b + c == 5;
                    if (a != b && b != c && a != c && !both) {
                        chain(a, b, c);
                    }
                }
            }
        }
    }

    private static void chain(int a, int b, int c) {
        String middle = LETTERS.charAt(b) + ":" + LETTERS.charAt(a) + ";";
        String text = middle + LETTERS.charAt(c) + ":" + LETTERS.charAt(b) + ";";
        String first = LETTERS.charAt(a) + ":A;" + text;
        HourPromised x = chained(first, a, b, c);
        due.is("14 the last of " + text, x.undo(0, c), 1);
        due.is("14 the middle of " + text, x.undo(0, b), 1);
        due.is("14 the first of " + text, x.undo(0, a), 1);
        x = chained(first, a, b, c);
        due.is("14 the middle with the last of " + text, x.undo(0, b), 2);
        due.is("14 the first stands", x.promised(0, a, 0), 20);
        stands(x, "14 " + text, 1, 2);
        x = chained(first, a, b, c);
        due.is("14 the first with all of " + text, x.undo(0, a), 3);
        stands(x, "14 " + text, 0, 3);
        x = chained(first, a, b, c);
        due.is("10 a paper of the first of " + text, x.paper(0, 0, 21), 3);
        stands(x, "10 " + text, 0, 3);
        x = chained(first, a, b, c);
        due.is("6 a law that forbids the first of " + text, Due.tellLaw(x, 0, LETTERS.charAt(a) + ":!;" + text), 3);
        stands(x, "6 " + text, 0, 3);
    }

    private static HourPromised chained(String text, int a, int b, int c) {
        HourPromised x = houseOf(1);
        Due.tellLaw(x, 0, text);
        x.paper(0, 0, 20);
        x.promise(0, a, 20);
        x.promise(0, b, 30);
        x.promise(0, c, 40);
        stands(x, "12 a chain", 3, 0);
        return x;
    }

    private static void thatCaseAlone() {
        HourPromised x = houseOf(3);
        Due.tellLaw(x, 0, "f:A;s:f;g:s;");
        for (int c = 0; c < 3; c++) {
            x.paper(c, 0, 0);
            x.promise(c, FETCH, 20);
            x.promise(c, SERVICE, 30);
            x.promise(c, GRAVE, 40);
        }
        due.is("10 a late paper", x.paper(1, 0, 399), 3);
        stands(x, "10 that case alone", 6, 3);
        due.is("14 an undoing", x.undo(2, SERVICE), 2);
        stands(x, "14 that case alone", 4, 5);
        due.is("15 the first case stands", x.promised(0, GRAVE, 0), 40);
        due.is("15 the third one's fetching stands", x.promised(2, FETCH, 0), 20);
        due.is("14 NOT: it has been undone", x.undo(1, GRAVE), NOT);
        stands(x, "14 refused", 4, 5);
    }

    private static void casesOfTheFaith() {
        for (int faith = 0; faith < 4; faith++) {
            HourPromised x = new HourPromised();
            for (int c = 0; c < 16; c++) {
                x.casus(c % 4, 0, 0, 0);
                x.promise(c, GRAVE, 50 + c);
                x.promise(c, SERVICE, 40 + c);
            }
            due.is("6 both steps of four cases", Due.tellLaw(x, faith, "s:!;g:s;"), 8);
            for (int c = 0; c < 16; c++) {
                due.is("6 of faith " + faith + ", case " + c, x.promised(c, GRAVE, 0), c % 4 == faith ? NONE : 50 + c);
            }
            stands(x, "6 one faith's", 24, 8);
        }
    }

    private static void whatIsUndoneIsFree() {
        for (int way = 0; way < 3; way++) {
            HourPromised x = new HourPromised();
            x.bearer(170);
            x.house(0, 1);
            x.house(2, 1);
            Due.tellLaw(x, 1, "f:A;s:A;b:A;g:A;");
            x.casus(1, 0, 1, 0);
            x.casus(0, 0, 1, 0);
            x.paper(0, 0, 0);
            x.promise(0, FETCH, 20);
            x.promise(0, SERVICE, 21);
            x.promise(0, FIRE, 22);
            int undone = way == 0 ? x.paper(0, 0, NONE) : way == 1 ? Due.tellLaw(x, 1, "f:!;s:!;b:!;g:!;")
                    : x.undo(0, FETCH) + x.undo(0, SERVICE) + x.undo(0, FIRE);
            due.is("T3 all three, way " + way, undone, 3);
            for (int hour = 19; hour < 24; hour++) {
                for (int what = 0; what < 6; what++) {
                    due.is("16 nothing is taken in " + hour, x.taken(hour, what), 0);
                }
            }
            due.is("16 no room to the end", x.taken(399, 3), 0);
            due.is("12 the car and the room", x.promise(1, FETCH, 20), 1);
            due.is("12 the car, the chapel and the bearer", x.promise(1, SERVICE, 21), 1);
            due.is("12 the car and the fire", x.promise(1, FIRE, 22), 1);
        }
        HourPromised x = houseOf(1);
        Due.tellLaw(x, 0, "b:A;");
        x.paper(0, 0, 0);
        x.promise(0, FETCH, 20);
        x.promise(0, FIRE, 30);
        x.paper(0, 0, NONE);
        due.is("T3 its room goes on without the fire", x.taken(399, 3), 1);
    }

    private static void undoneAndPromisedAgain() {
        HourPromised x = houseOf(1);
        for (int turn = 1; turn <= 20; turn++) {
            due.is("12 again", x.promise(0, GRAVE, 50), 1);
            due.is("14 and undone", x.undo(0, GRAVE), 1);
            due.is("14 NOT: undone", x.undo(0, GRAVE), NOT);
            stands(x, "14 again", 0, turn);
        }
    }

    private static void undoneSoFar() {
        HourPromised x = houseOf(2);
        x.paper(0, 0, 0);
        Due.tellLaw(x, 0, "f:A;");
        x.promise(0, FETCH, 20);
        x.promise(0, SERVICE, 21);
        x.promise(0, GRAVE, 22);
        x.undo(0, GRAVE);
        stands(x, "17 by undo()", 2, 1);
        x.paper(0, 0, 399);
        stands(x, "17 by paper()", 1, 2);
        Due.tellLaw(x, 0, "s:!;");
        stands(x, "17 by law()", 0, 3);
    }
}
