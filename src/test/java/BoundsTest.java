import java.util.TreeSet;

/**
 * Each number that a call takes, told within its bounds, where it is neither UNKNOWN nor OUTSIDE, and beyond them: one
 * beyond, the ends of an int, and numbers whose low bits lie within. Each answer is asked of a house of its own.
 */
public final class BoundsTest {
    private static final int UNKNOWN = HourPromised.UNKNOWN, OUTSIDE = HourPromised.OUTSIDE;
    private static final int CASES = 3, PLANS = 2;
    private static final int ALL_ARE_ASKED = 1024;

    private static final Due due = new Due();

    private interface Call {
        int on(HourPromised x, int v);
    }

    public static void main(String[] args) {
        theHouse();
        laws();
        cases();
        hoursOfCases();
        questions();
        money();
        due.end("BoundsTest");
    }

    /** Three cases, of which the first has all that can be promised; two plans with money. */
    private static HourPromised someHouse() {
        HourPromised x = new HourPromised();
        x.bearer(170);
        for (int c = 0; c < CASES; c++) {
            x.casus(0, 0, 0, 0);
        }
        for (int step = 0; step < 3; step++) {
            x.promise(0, step, 10 + step);
        }
        for (int plan = 0; plan < PLANS; plan++) {
            x.plan(50);
            x.pay(plan, 60);
        }
        return x;
    }

    private static void bounds(String name, int least, int most, int refusal, Call call) {
        for (int v : between(least, most)) {
            int answer = call.on(someHouse(), v);
            due.is(name + " " + v + " answers " + answer, answer == UNKNOWN || answer == OUTSIDE ? 1 : 0, 0);
        }
        for (int v : beyond(least, most)) {
            due.is(name + " " + v, call.on(someHouse(), v), refusal);
        }
    }

    private static TreeSet<Integer> between(int least, int most) {
        TreeSet<Integer> some = new TreeSet<>();
        int stride = most - least < ALL_ARE_ASKED ? 1 : (most - least) / 7;
        for (int v = least; v <= most; v += stride) {
            some.add(v);
        }
        some.add(most - 1);
        some.add(most);
        return some;
    }

    private static TreeSet<Integer> beyond(int least, int most) {
        TreeSet<Integer> some = new TreeSet<>();
        some.add(Integer.MIN_VALUE);
        some.add(Integer.MAX_VALUE);
        some.add(least - 1);
        some.add(most + 1);
        for (int bit = 5; bit < 32; bit++) {
            some.add(least + (1 << bit));
            some.add(most + (1 << bit));
            some.add(most - (1 << bit));
            some.add(-(1 << bit));
        }
        some.removeIf(v -> v >= least && v <= most);
        return some;
    }

    private static void theHouse() {
        bounds("2 house, what", 0, 2, OUTSIDE, (x, v) -> x.house(v, 2));
        bounds("2 house, CARS", 0, 4, OUTSIDE, (x, v) -> x.house(0, v));
        bounds("2 house, FIRES", 0, 3, OUTSIDE, (x, v) -> x.house(1, v));
        bounds("2 house, ROOMS", 0, 8, OUTSIDE, (x, v) -> x.house(2, v));
        bounds("3 open, CHAPEL", 0, 2, UNKNOWN, (x, v) -> x.open(v, 5));
        bounds("3 open, hours", 0, 1023, OUTSIDE, (x, v) -> x.open(2, v));
        bounds("4 bearer, HEIGHT", 140, 210, OUTSIDE, (x, v) -> x.bearer(v));
    }

    private static void laws() {
        bounds("5 feed, n", 1, 8, OUTSIDE, (x, v) -> x.feed(v, 0x2020202020202020L));
        bounds("6 law, FAITH", 0, 3, UNKNOWN, (x, v) -> x.law(v));
        bounds("8 says, FAITH", 0, 3, UNKNOWN, (x, v) -> x.says(v, 0, 0));
        bounds("8 says, STEP", 0, 3, OUTSIDE, (x, v) -> x.says(0, v, 0));
        bounds("8 says, what", 0, 4, OUTSIDE, (x, v) -> x.says(0, 0, v));
    }

    private static void cases() {
        bounds("9 casus, FAITH", 0, 3, UNKNOWN, (x, v) -> x.casus(v, 0, 0, 0));
        bounds("9 casus, DEATH", 0, 399, OUTSIDE, (x, v) -> x.casus(0, v, 0, 0));
        bounds("9 casus, NEEDED", 0, 6, OUTSIDE, (x, v) -> x.casus(0, 0, v, 0));
        bounds("9 casus, SPAN", 0, 70, OUTSIDE, (x, v) -> x.casus(0, 0, 0, v));
        bounds("10 paper, CASE", 0, CASES - 1, UNKNOWN, (x, v) -> x.paper(v, 0, 0));
        bounds("10 paper, PAPER", 0, 5, OUTSIDE, (x, v) -> x.paper(0, v, 0));
        bounds("10 paper, HOUR or NONE", -1, 399, OUTSIDE, (x, v) -> x.paper(0, 0, v));
    }

    private static void hoursOfCases() {
        bounds("11 may, CASE", 0, CASES - 1, UNKNOWN, (x, v) -> x.may(v, 0, 20));
        bounds("11 may, STEP", 0, 3, OUTSIDE, (x, v) -> x.may(0, v, 20));
        bounds("11 may, HOUR", 0, 399, OUTSIDE, (x, v) -> x.may(1, 0, v));
        bounds("12 promise, CASE", 0, CASES - 1, UNKNOWN, (x, v) -> x.promise(v, 0, 20));
        bounds("12 promise, STEP", 0, 3, OUTSIDE, (x, v) -> x.promise(1, v, 20));
        bounds("12 promise, HOUR", 0, 399, OUTSIDE, (x, v) -> x.promise(1, 0, v));
        bounds("13 earliest, CASE", 0, CASES - 1, UNKNOWN, (x, v) -> x.earliest(v, 0, 20));
        bounds("13 earliest, STEP", 0, 3, OUTSIDE, (x, v) -> x.earliest(0, v, 20));
        bounds("13 earliest, HOUR", 0, 399, OUTSIDE, (x, v) -> x.earliest(1, 0, v));
        bounds("14 undo, CASE", 0, CASES - 1, UNKNOWN, (x, v) -> x.undo(v, 0));
        bounds("14 undo, STEP", 0, 3, OUTSIDE, (x, v) -> x.undo(0, v));
    }

    private static void questions() {
        bounds("15 promised, CASE", 0, CASES - 1, UNKNOWN, (x, v) -> x.promised(v, 0, 0));
        bounds("15 promised, STEP", 0, 3, OUTSIDE, (x, v) -> x.promised(0, v, 0));
        for (int step = 0; step < 4; step++) {
            int its = step;
            bounds("15 promised, what of step " + its, 0, 2, OUTSIDE, (x, v) -> x.promised(0, its, v));
            bounds("15 promised, what of no promise", 0, 2, OUTSIDE, (x, v) -> x.promised(1, its, v));
        }
        bounds("16 taken, HOUR", 0, 399, OUTSIDE, (x, v) -> x.taken(v, 0));
        bounds("16 taken, what", 0, 5, OUTSIDE, (x, v) -> x.taken(10, v));
        bounds("17 count, what", 0, 10, OUTSIDE, (x, v) -> x.count(v));
    }

    private static void money() {
        bounds("18 plan, PRICE", 0, 1000000, OUTSIDE, (x, v) -> x.plan(v));
        bounds("19 pay, PLAN", 0, PLANS - 1, UNKNOWN, (x, v) -> x.pay(v, 1));
        bounds("19 pay, sum", 1, 1000000, OUTSIDE, (x, v) -> x.pay(0, v));
        bounds("20 rate", 0, 100, OUTSIDE, (x, v) -> x.rate(v));
        bounds("21 days", 0, 400, OUTSIDE, (x, v) -> x.days(v));
        bounds("22 tie, PLAN", 0, PLANS - 1, UNKNOWN, (x, v) -> x.tie(v, 0));
        bounds("22 tie, CASE", 0, CASES - 1, UNKNOWN, (x, v) -> x.tie(0, v));
        bounds("23 settle, CASE", 0, CASES - 1, UNKNOWN, (x, v) -> x.settle(v));
        bounds("24 planned, PLAN", 0, PLANS - 1, UNKNOWN, (x, v) -> x.planned(v, 0));
        bounds("24 planned, what", 0, 3, OUTSIDE, (x, v) -> x.planned(0, v));
    }
}
