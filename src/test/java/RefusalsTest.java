import java.util.ArrayList;
import java.util.List;

/**
 * The refusals: of several that hold at once the first is told (UNKNOWN, OUTSIDE, NOT, FULL), and what is refused
 * changes nothing. Each call is made on a full house of its own; then that house and one to which it was not made are
 * asked the same questions, in parts, since a house answers 512 calls only.
 */
public final class RefusalsTest {
    private static final int UNKNOWN = HourPromised.UNKNOWN, OUTSIDE = HourPromised.OUTSIDE;
    private static final int NOT = HourPromised.NOT, FULL = HourPromised.FULL;
    private static final int FETCH = 0, SERVICE = 1, FIRE = 2, GRAVE = 3;
    private static final int MOST_QUESTIONS = 380, LOW = Integer.MIN_VALUE, HIGH = Integer.MAX_VALUE;

    private static final Due due = new Due();
    private static final List<List<Call>> parts = new ArrayList<>();
    private static final List<int[]> calmAnswers = new ArrayList<>();

    private interface Call {
        int on(HourPromised x);
    }

    public static void main(String[] args) {
        prepareQuestions();
        fullHouseIsFull();
        oneRefusalEach();
        hinderedPromises();
        unknownAheadOfOutside();
        unknownAheadOfOthers();
        outsideAheadOfNot();
        outsideAheadOfFull();
        due.end("RefusalsTest");
    }

    // ---- the full house

    private static HourPromised fullHouse() {
        HourPromised x = new HourPromised();
        x.open(1, 0);
        x.open(2, 0);
        Due.tellLaw(x, 1, "f:A;s:f;g:s<300;");
        Due.tellLaw(x, 2, "b:!;");
        Due.tellLaw(x, 3, "f:AA");
        for (int i = 0; i < 12; i++) {
            x.bearer(140 + 6 * i);
        }
        fillCases(x);
        fillHours(x);
        fillPlans(x);
        Due.feedText(x, "s:B;" + " ".repeat(96));
        return x;
    }

    private static void fillCases(HourPromised x) {
        x.casus(1, 10, 2, 10);
        x.casus(0, 0, 6, 70);
        x.casus(0, 0, 3, 12);
        x.casus(0, 0, 3, 30);
        for (int c = 4; c < 10; c++) {
            x.casus(0, 0, 0, 0);
        }
        x.casus(2, 0, 0, 0);
        x.casus(1, 0, 0, 0);
        x.casus(1, 0, 0, 0);
        x.casus(0, 0, 6, 0);
        x.casus(3, 0, 1, 0);
        x.casus(0, 399, 0, 0);
        x.paper(0, 0, 12);
        x.paper(12, 0, 0);
    }

    /** Taken are all cars and bearers of 41, all cars of 60, all rooms from 61 on, the chapel of 20, the fire of 50. */
    private static void fillHours(HourPromised x) {
        x.promise(0, FETCH, 12);
        x.promise(0, SERVICE, 20);
        x.promise(0, GRAVE, 30);
        x.promise(1, SERVICE, 41);
        x.promise(2, GRAVE, 41);
        x.promise(3, GRAVE, 41);
        x.promise(4, FIRE, 50);
        x.promise(5, FIRE, 51);
        x.promise(6, FETCH, 60);
        x.promise(7, FETCH, 60);
        x.promise(8, FETCH, 60);
        x.promise(9, FETCH, 61);
    }

    /** Plan 0 has all it may have, plan 1 has paid out, 2 is tied, the others are not. */
    private static void fillPlans(HourPromised x) {
        for (int plan = 0; plan < 16; plan++) {
            x.plan(100 * plan);
        }
        x.pay(0, 1000000);
        x.rate(100);
        x.days(400);
        x.days(400);
        x.rate(7);
        x.pay(1, 150);
        x.tie(0, 0);
        x.tie(1, 4);
        x.tie(2, 13);
        x.settle(4);
        x.settle(5);
    }

    private static void fullHouseIsFull() {
        HourPromised x = fullHouse();
        int[] counts = {16, 12, 12, 0, 100, 16, 100000050, 100, 3, 1, 4};
        for (int what = 0; what < counts.length; what++) {
            due.is("full house, count " + what, x.count(what), counts[what]);
        }
        due.is("full house, bearers of 41", x.taken(41, 4), 12);
        due.is("full house, rooms", x.taken(399, 3), 4);
        due.is("full house, place", x.place(), 3);
    }

    // ---- the questions

    private static void prepareQuestions() {
        List<Call> asked = new ArrayList<>();
        for (int hour = 0; hour < 400; hour++) {
            for (int what = 0; what < 6; what++) {
                asked.add(taken(hour, what));
            }
        }
        for (int c = 0; c < 16; c++) {
            for (int step = 0; step < 4; step++) {
                askOfStep(asked, c, step);
            }
        }
        for (int at = 0; at < asked.size(); at += MOST_QUESTIONS) {
            parts.add(asked.subList(at, Math.min(at + MOST_QUESTIONS, asked.size())));
        }
        parts.add(smallQuestions());
        parts.add(lastQuestions());
        for (List<Call> part : parts) {
            calmAnswers.add(answers(fullHouse(), part));
        }
    }

    private static Call taken(int hour, int what) {
        return x -> x.taken(hour, what);
    }

    private static void askOfStep(List<Call> asked, int c, int step) {
        for (int what = 0; what < 3; what++) {
            int its = what;
            asked.add(x -> x.promised(c, step, its));
        }
        for (int hour : new int[] {1, 12, 41, 62, 350}) {
            asked.add(x -> x.may(c, step, hour));
        }
    }

    private static List<Call> smallQuestions() {
        List<Call> asked = new ArrayList<>();
        asked.add(x -> x.place());
        for (int k = 0; k < 11; k++) {
            int what = k;
            asked.add(x -> x.count(what));
        }
        for (int k = 0; k < 80; k++) {
            int faith = k / 20;
            int step = k / 5 % 4;
            int what = k % 5;
            asked.add(x -> x.says(faith, step, what));
        }
        for (int k = 0; k < 64; k++) {
            int plan = k / 4;
            int what = k % 4;
            asked.add(x -> x.planned(plan, what));
        }
        return asked;
    }

    /** What only a call that changes something tells: the rate, the chapels' hours, THE TEXT, what is paid. */
    private static List<Call> lastQuestions() {
        List<Call> asked = new ArrayList<>();
        asked.add(x -> x.rate(0));
        for (int k = 0; k < 3; k++) {
            int chapel = k;
            asked.add(x -> x.open(chapel, 1023));
        }
        asked.add(x -> x.law(3));
        asked.add(x -> x.says(3, SERVICE, 0));
        for (int k = 0; k < 16; k++) {
            int c = k;
            asked.add(x -> x.promise(c, FIRE, 100 + c));
            asked.add(x -> x.settle(c));
            asked.add(x -> x.tie(c, 15 - c));
        }
        asked.add(x -> x.count(7));
        return asked;
    }

    private static int[] answers(HourPromised x, List<Call> asked) {
        int[] got = new int[asked.size()];
        for (int k = 0; k < got.length; k++) {
            got[k] = asked.get(k).on(x);
        }
        return got;
    }

    private static void refused(String name, int refusal, Call call) {
        for (int part = 0; part < parts.size(); part++) {
            HourPromised x = fullHouse();
            due.is(name, call.on(x), refusal);
            int[] got = answers(x, parts.get(part));
            int[] calm = calmAnswers.get(part);
            for (int k = 0; k < got.length; k++) {
                due.is(name + " has changed question " + k + " of part " + part + ":", got[k], calm[k]);
            }
        }
    }

    // ---- one refusal alone

    private static void oneRefusalEach() {
        refused("2 OUTSIDE", OUTSIDE, x -> x.house(0, 5));
        refused("2 NOT: more CARS are taken in some HOUR", NOT, x -> x.house(0, 2));
        refused("2 NOT: more FIRES are taken", NOT, x -> x.house(1, 0));
        refused("2 NOT: more ROOMS are taken", NOT, x -> x.house(2, 3));
        refused("3 UNKNOWN", UNKNOWN, x -> x.open(3, 0));
        refused("3 OUTSIDE", OUTSIDE, x -> x.open(1, 1024));
        refused("3 NOT: not all SERVICES would have one", NOT, x -> x.open(0, 1021));
        refused("4 OUTSIDE", OUTSIDE, x -> x.bearer(139));
        refused("4 FULL", FULL, x -> x.bearer(140));
        refused("5 OUTSIDE", OUTSIDE, x -> x.feed(0, 0));
        refused("5 FULL", FULL, x -> x.feed(1, 0x3B));
        refused("6 UNKNOWN (THE TEXT stays)", UNKNOWN, x -> x.law(4));
        refused("8 UNKNOWN", UNKNOWN, x -> x.says(4, 0, 0));
        refused("8 OUTSIDE", OUTSIDE, x -> x.says(0, 0, 5));
        refused("9 UNKNOWN", UNKNOWN, x -> x.casus(-1, 0, 0, 0));
        refused("9 OUTSIDE", OUTSIDE, x -> x.casus(0, 0, 7, 0));
        refused("9 FULL", FULL, x -> x.casus(0, 0, 0, 0));
        refused("10 UNKNOWN", UNKNOWN, x -> x.paper(16, 0, 0));
        refused("10 OUTSIDE: the PAPER", OUTSIDE, x -> x.paper(0, 6, 13));
        refused("10 OUTSIDE: the HOUR", OUTSIDE, x -> x.paper(0, 0, 400));
        refused("10 OUTSIDE: less than NONE", OUTSIDE, x -> x.paper(0, 0, -2));
        refused("11 UNKNOWN", UNKNOWN, x -> x.may(16, 0, 0));
        refused("11 OUTSIDE", OUTSIDE, x -> x.may(0, 4, 0));
        refused("13 UNKNOWN", UNKNOWN, x -> x.earliest(16, 0, 0));
        refused("13 OUTSIDE", OUTSIDE, x -> x.earliest(0, 0, 400));
        refused("14 UNKNOWN", UNKNOWN, x -> x.undo(-1, 0));
        refused("14 OUTSIDE", OUTSIDE, x -> x.undo(0, 4));
        refused("14 NOT: it is not promised", NOT, x -> x.undo(0, FIRE));
        refused("15 UNKNOWN", UNKNOWN, x -> x.promised(16, 0, 0));
        refused("15 OUTSIDE", OUTSIDE, x -> x.promised(0, 0, 3));
        refused("16 OUTSIDE", OUTSIDE, x -> x.taken(400, 0));
        refused("17 OUTSIDE", OUTSIDE, x -> x.count(11));
        refused("18 OUTSIDE", OUTSIDE, x -> x.plan(1000001));
        refused("18 FULL", FULL, x -> x.plan(0));
        refused("19 UNKNOWN", UNKNOWN, x -> x.pay(16, 1));
        refused("19 OUTSIDE", OUTSIDE, x -> x.pay(3, 0));
        refused("19 NOT: TRUST would be above 100000000", NOT, x -> x.pay(0, 1));
        refused("20 OUTSIDE", OUTSIDE, x -> x.rate(101));
        refused("21 OUTSIDE", OUTSIDE, x -> x.days(401));
        refused("22 UNKNOWN", UNKNOWN, x -> x.tie(16, 14));
        refused("22 NOT: it is tied", NOT, x -> x.tie(2, 14));
        refused("22 NOT: the CASE is tied", NOT, x -> x.tie(3, 0));
        refused("22 NOT: it has paid", NOT, x -> x.tie(1, 14));
        refused("23 UNKNOWN", UNKNOWN, x -> x.settle(16));
        refused("23 NOT: neither is promised", NOT, x -> x.settle(13));
        refused("23 NOT: it is PAID", NOT, x -> x.settle(4));
        refused("23 NOT: it is PAID, without a PLAN", NOT, x -> x.settle(5));
        refused("24 UNKNOWN", UNKNOWN, x -> x.planned(16, 0));
        refused("24 OUTSIDE", OUTSIDE, x -> x.planned(0, 4));
    }

    private static void hinderedPromises() {
        refused("12 UNKNOWN", UNKNOWN, x -> x.promise(16, 0, 5));
        refused("12 OUTSIDE: the STEP", OUTSIDE, x -> x.promise(14, 4, 5));
        refused("12 OUTSIDE: the HOUR", OUTSIDE, x -> x.promise(14, FETCH, 400));
        hindered(1, 0, FETCH, 13);
        hindered(2, 15, FIRE, 399);
        hindered(3, 10, FIRE, 5);
        hindered(4, 11, FETCH, 5);
        hindered(5, 12, GRAVE, 301);
        hindered(6, 12, GRAVE, 300);
        hindered(8, 4, GRAVE, 55);
        hindered(8, 0, FIRE, 55);
        hindered(9, 4, FETCH, 50);
        hindered(10, 13, FIRE, 60);
        hindered(11, 14, FETCH, 2);
        hindered(11, 14, SERVICE, 20);
        hindered(11, 13, FIRE, 50);
        hindered(12, 13, SERVICE, 70);
        hindered(12, 13, GRAVE, 70);
    }

    private static void hindered(int by, int c, int step, int hour) {
        due.is("11 hindered by " + by, fullHouse().may(c, step, hour), by);
        refused("12 NOT: hindered by " + by, NOT, x -> x.promise(c, step, hour));
    }

    // ---- the first of several

    private static void unknownAheadOfOutside() {
        for (int none : new int[] {-1, 16, LOW, HIGH}) {
            for (int odd : new int[] {LOW, -3, 1024, HIGH}) {
                first(UNKNOWN, x -> x.open(none, odd));
                first(UNKNOWN, x -> x.says(none, odd, 0));
                first(UNKNOWN, x -> x.says(none, 0, odd));
                first(UNKNOWN, x -> x.casus(none, odd, 0, 0));
                first(UNKNOWN, x -> x.casus(none, 0, odd, 0));
                first(UNKNOWN, x -> x.casus(none, 0, 0, odd));
                first(UNKNOWN, x -> x.paper(none, odd, 0));
                first(UNKNOWN, x -> x.paper(none, 0, odd));
                first(UNKNOWN, x -> x.may(none, odd, 0));
                first(UNKNOWN, x -> x.may(none, 0, odd));
                first(UNKNOWN, x -> x.promise(none, odd, 0));
                first(UNKNOWN, x -> x.promise(none, 0, odd));
                first(UNKNOWN, x -> x.earliest(none, odd, 0));
                first(UNKNOWN, x -> x.earliest(none, 0, odd));
                first(UNKNOWN, x -> x.undo(none, odd));
                first(UNKNOWN, x -> x.promised(none, odd, 0));
                first(UNKNOWN, x -> x.promised(none, 0, odd));
                first(UNKNOWN, x -> x.pay(none, odd));
                first(UNKNOWN, x -> x.planned(none, odd));
            }
        }
    }

    private static void first(int refusal, Call call) {
        due.is("the first of several", call.on(fullHouse()), refusal);
    }

    private static void unknownAheadOfOthers() {
        HourPromised faulty = new HourPromised();
        faulty.feed(1, '?');
        due.is("6 UNKNOWN ahead of a FAULT", faulty.law(-1), UNKNOWN);
        due.is("6 UNKNOWN (THE TEXT stays), be it faulty", faulty.count(4), 1);
        due.is("7 the FAULT was not looked for", faulty.place(), HourPromised.NONE);
        refused("9 UNKNOWN ahead of FULL", UNKNOWN, x -> x.casus(4, 0, 0, 0));
        refused("22 UNKNOWN, and the PLAN is tied", UNKNOWN, x -> x.tie(0, 16));
        refused("22 UNKNOWN, and the CASE is tied", UNKNOWN, x -> x.tie(16, 0));
        refused("22 UNKNOWN, and the PLAN has paid", UNKNOWN, x -> x.tie(1, -1));
        refused("22 UNKNOWN both", UNKNOWN, x -> x.tie(-1, -1));
    }

    private static void outsideAheadOfNot() {
        refused("2 OUTSIDE ahead of NOT, CARS", OUTSIDE, x -> x.house(0, -1));
        refused("2 OUTSIDE ahead of NOT, FIRES", OUTSIDE, x -> x.house(1, -1));
        refused("2 OUTSIDE ahead of NOT, ROOMS", OUTSIDE, x -> x.house(2, LOW));
        refused("3 OUTSIDE ahead of NOT", OUTSIDE, x -> x.open(0, 1024));
        refused("3 OUTSIDE ahead of NOT, below", OUTSIDE, x -> x.open(0, -1024));
        refused("12 OUTSIDE ahead of NOT", OUTSIDE, x -> x.promise(0, FETCH, 400));
        refused("12 OUTSIDE ahead of NOT, below", OUTSIDE, x -> x.promise(0, FETCH, -1));
        refused("19 OUTSIDE ahead of NOT", OUTSIDE, x -> x.pay(0, 1000001));
        refused("19 OUTSIDE ahead of NOT, wrapped around", OUTSIDE, x -> x.pay(0, HIGH));
    }

    private static void outsideAheadOfFull() {
        refused("4 OUTSIDE ahead of FULL", OUTSIDE, x -> x.bearer(211));
        refused("5 OUTSIDE ahead of FULL, none", OUTSIDE, x -> x.feed(0, 0x20));
        refused("5 OUTSIDE ahead of FULL, nine", OUTSIDE, x -> x.feed(9, 0x20));
        refused("9 OUTSIDE ahead of FULL, DEATH", OUTSIDE, x -> x.casus(0, 400, 0, 0));
        refused("9 OUTSIDE ahead of FULL, NEEDED", OUTSIDE, x -> x.casus(0, 0, -1, 0));
        refused("9 OUTSIDE ahead of FULL, SPAN", OUTSIDE, x -> x.casus(0, 0, 0, 71));
        refused("18 OUTSIDE ahead of FULL", OUTSIDE, x -> x.plan(-1));
    }
}
