/** Part 4 of the terms, and promises 17 to 24: money laid by, at its bounds, and that it goes out once. */
public final class TrustTest {
    private static final int NONE = HourPromised.NONE, NOT = HourPromised.NOT, FULL = HourPromised.FULL;
    private static final int OUTSIDE = HourPromised.OUTSIDE;
    private static final int FETCH = 0, SERVICE = 1, FIRE = 2, GRAVE = 3;
    private static final int PRICE = 0, TRUST = 1, CASE = 2, PAID_OUT = 3;
    private static final int TRUST_OF_ALL = 6, ALL_PAID_OUT = 7;
    private static final int MOST_TRUST = 100000000;

    private static final Due due = new Due();

    public static void main(String[] args) {
        sixteenPlans();
        sumsPaidIn();
        trustHasItsMost();
        growthIsCut();
        growthDayByDay();
        growthDoesNotWrapAround();
        growthEndsAtTheMost();
        rateAtItsBounds();
        eachPlanByItself();
        oneCaseOnePlan();
        theLesserGoesOut();
        goesOutOnce();
        neitherIsPromised();
        paidWithoutPlan();
        afterItIsPaid();
        allPaidOut();
        due.end("TrustTest");
    }

    /** A house with so many plans for a price, and as many cases, each with the same number. */
    private static HourPromised houseOf(int many, int price) {
        HourPromised x = new HourPromised();
        for (int k = 0; k < many; k++) {
            x.plan(price);
            x.casus(0, 0, 0, 0);
        }
        return x;
    }

    private static void isPlan(HourPromised x, int plan, int price, int trust, int c, int paidOut) {
        due.is("24 price of " + plan, x.planned(plan, PRICE), price);
        due.is("24 trust of " + plan, x.planned(plan, TRUST), trust);
        due.is("24 case of " + plan, x.planned(plan, CASE), c);
        due.is("24 paid out by " + plan, x.planned(plan, PAID_OUT), paidOut);
    }

    /** A plan that has all that a trust may have, by growth, since paying it in would take a hundred calls. */
    private static HourPromised richHouse(int plans) {
        HourPromised x = houseOf(plans, 1000000);
        for (int plan = 0; plan < plans; plan++) {
            x.pay(plan, 1000000);
        }
        x.rate(100);
        x.days(400);
        x.days(400);
        return x;
    }

    private static void sixteenPlans() {
        HourPromised x = new HourPromised();
        for (int plan = 0; plan < 16; plan++) {
            due.is("18 a refused one takes no number", x.plan(1000001), OUTSIDE);
            due.is("18 numbers from 0 on", x.plan(plan), plan);
            isPlan(x, plan, plan, 0, NONE, 0);
            due.is("17 plans", x.count(5), plan + 1);
        }
        due.is("18 sixteen at most", x.plan(0), FULL);
        due.is("17 sixteen", x.count(5), 16);
        due.is("19 the last one", x.pay(15, 3), 3);
        x = new HourPromised();
        x.plan(0);
        x.plan(1000000);
        isPlan(x, 0, 0, 0, NONE, 0);
        isPlan(x, 1, 1000000, 0, NONE, 0);
    }

    private static void sumsPaidIn() {
        HourPromised x = houseOf(2, 5);
        due.is("19 the least sum", x.pay(0, 1), 1);
        due.is("19 the greatest sum", x.pay(0, 1000000), 1000001);
        due.is("19 to another plan", x.pay(1, 1000000), 1000000);
        due.is("19 nothing", x.pay(0, 0), OUTSIDE);
        due.is("19 less than nothing", x.pay(0, -1), OUTSIDE);
        due.is("19 one too much", x.pay(0, 1000001), OUTSIDE);
        isPlan(x, 0, 5, 1000001, NONE, 0);
        due.is("17 trust of all", x.count(TRUST_OF_ALL), 2000001);
    }

    private static void trustHasItsMost() {
        HourPromised x = houseOf(2, 0);
        for (int k = 1; k <= 99; k++) {
            due.is("19 a hundred sums", x.pay(1, 1000000), k * 1000000);
        }
        due.is("19 one below", x.pay(1, 999999), MOST_TRUST - 1);
        due.is("19 NOT: one above", x.pay(1, 2), NOT);
        due.is("19 NOT: far above", x.pay(1, 1000000), NOT);
        due.is("19 what was refused did not come", x.planned(1, TRUST), MOST_TRUST - 1);
        due.is("19 the most itself", x.pay(1, 1), MOST_TRUST);
        due.is("19 NOT: one above the most", x.pay(1, 1), NOT);
        due.is("19 the bound is that of one plan", x.pay(0, 1000000), 1000000);
        due.is("17 trust of all", x.count(TRUST_OF_ALL), MOST_TRUST + 1000000);
    }

    private static void growthIsCut() {
        // Of 99 at a hundredth nothing grows, of 100 one does, of 199 still one.
        int[][] grown = {{1, 1}, {99, 99}, {100, 101}, {199, 200}, {200, 202}, {9999, 10098}, {1000000, 1010000}};
        for (int[] row : grown) {
            HourPromised x = houseOf(1, 0);
            x.pay(0, row[0]);
            x.rate(100);
            due.is("21 cut towards 0: " + row[0], x.days(1), row[1]);
            due.is("24 its trust", x.planned(0, TRUST), row[1]);
        }
        HourPromised x = houseOf(1, 0);
        x.pay(0, 9999);
        x.rate(1);
        due.is("21 less than one", x.days(400), 9999);
        x.pay(0, 1);
        due.is("21 one", x.days(1), 10001);
    }

    private static void growthDayByDay() {
        HourPromised x = houseOf(1, 0);
        due.is("21 nothing in trust", x.days(400), 0);
        x.pay(0, 12345);
        due.is("21 the rate is 0 at first", x.days(400), 12345);
        x.rate(37);
        due.is("21 no days", x.days(0), 12345);
        // What has grown grows too: 12345 + 45, then 12390 + 45, then 12435 + 46.
        due.is("21 the first day", x.days(1), 12390);
        due.is("21 two days at once", x.days(2), 12481);
        due.is("20 the rate was", x.rate(0), 37);
        due.is("21 a rate of 0 again", x.days(400), 12481);
        long trust = 12481;
        x.rate(100);
        for (int day = 0; day < 400; day++) {
            trust += trust * 100 / 10000;
        }
        due.is("21 the most days at the most rate", x.days(400), trust);
    }

    private static void growthDoesNotWrapAround() {
        // The trust times the rate is beyond an int from 21474837 on.
        HourPromised x = houseOf(1, 0);
        for (int k = 0; k < 21; k++) {
            x.pay(0, 1000000);
        }
        x.pay(0, 474836);
        x.rate(100);
        due.is("21 within an int", x.days(1), 21474836 + 214748);
        x = houseOf(1, 0);
        for (int k = 0; k < 43; k++) {
            x.pay(0, 1000000);
        }
        x.rate(100);
        due.is("21 beyond an int", x.days(1), 43430000);
        due.is("21 again", x.days(1), 43430000 + 434300);
    }

    private static void growthEndsAtTheMost() {
        HourPromised x = houseOf(1, 0);
        for (int k = 0; k < 99; k++) {
            x.pay(0, 1000000);
        }
        x.rate(100);
        due.is("21 below the most", x.days(1), 99990000);
        due.is("21 not above the most", x.days(1), MOST_TRUST);
        due.is("21 nor on any day", x.days(400), MOST_TRUST);
        due.is("19 NOT: nor by a sum", x.pay(0, 1), NOT);
        x = houseOf(1, 0);
        for (int k = 0; k < 99; k++) {
            x.pay(0, 1000000);
        }
        x.pay(0, 9901);
        x.rate(100);
        // 99009901 grows by 990099.
        due.is("21 just the most", x.days(1), MOST_TRUST);
        x = richHouse(16);
        due.is("21 sixteen at their most", x.days(1), 16 * MOST_TRUST);
        due.is("17 trust of all, as an int", x.count(TRUST_OF_ALL), 1600000000);
    }

    private static void rateAtItsBounds() {
        HourPromised x = houseOf(1, 0);
        x.pay(0, 1000000);
        due.is("20 0 at first", x.rate(1), 0);
        due.is("21 the least", x.days(1), 1000100);
        due.is("20 to the most", x.rate(100), 1);
        due.is("20 OUTSIDE above", x.rate(101), OUTSIDE);
        due.is("20 OUTSIDE below", x.rate(-1), OUTSIDE);
        due.is("21 at the most", x.days(1), 1000100 + 10001);
        due.is("20 what it was", x.rate(0), 100);
        due.is("20 told again", x.rate(0), 0);
    }

    private static void eachPlanByItself() {
        HourPromised x = houseOf(16, 0);
        for (int plan = 0; plan < 16; plan++) {
            x.pay(plan, 99);
        }
        x.rate(100);
        // Together they would grow by 15.
        due.is("21 none of them grows", x.days(1), 16 * 99);
        x.pay(7, 1);
        due.is("21 one of them does", x.days(1), 16 * 99 + 2);
        due.is("24 that one", x.planned(7, TRUST), 101);
        due.is("24 its neighbour", x.planned(8, TRUST), 99);
        due.is("17 trust of all", x.count(TRUST_OF_ALL), 16 * 99 + 2);
    }

    private static void oneCaseOnePlan() {
        HourPromised x = houseOf(3, 5);
        due.is("22 tied", x.tie(0, 2), 1);
        isPlan(x, 0, 5, 0, 2, 0);
        due.is("22 NOT: tied to this CASE", x.tie(0, 2), NOT);
        due.is("22 NOT: the PLAN is tied", x.tie(0, 1), NOT);
        due.is("22 NOT: the CASE is tied", x.tie(1, 2), NOT);
        isPlan(x, 1, 5, 0, NONE, 0);
        due.is("22 the case with the plan's number is free", x.tie(1, 0), 1);
        due.is("22 the last ones", x.tie(2, 1), 1);
        isPlan(x, 0, 5, 0, 2, 0);
        isPlan(x, 1, 5, 0, 0, 0);
        isPlan(x, 2, 5, 0, 1, 0);
        x = houseOf(16, 5);
        due.is("22 the last of sixteen", x.tie(15, 0), 1);
        due.is("22 and the other way round", x.tie(0, 15), 1);
        isPlan(x, 15, 5, 0, 0, 0);
        isPlan(x, 0, 5, 0, 15, 0);
    }

    private static void theLesserGoesOut() {
        int[][] rows = {{100, 99, 99}, {100, 100, 100}, {100, 101, 100}, {0, 50, 0}, {0, 0, 0}, {100, 0, 0},
            {1000000, 1000000, 1000000}, {1, 1000000, 1}, {1000000, 1, 1}};
        for (int[] row : rows) {
            for (int end = FIRE; end <= GRAVE; end++) {
                HourPromised x = houseOf(2, row[0]);
                if (row[1] > 0) {
                    x.pay(1, row[1]);
                }
                x.tie(1, 0);
                x.promise(0, end, 50);
                due.is("23 of price " + row[0] + " and trust " + row[1], x.settle(0), row[2]);
                isPlan(x, 1, row[0], row[1] - row[2], 0, row[2]);
                isPlan(x, 0, row[0], 0, NONE, 0);
                due.is("17 paid out so far", x.count(ALL_PAID_OUT), row[2]);
                due.is("17 what is left stays", x.count(TRUST_OF_ALL), row[1] - row[2]);
            }
        }
        HourPromised x = richHouse(1);
        x.tie(0, 0);
        x.promise(0, FIRE, 1);
        due.is("23 of the most there can be", x.settle(0), 1000000);
        isPlan(x, 0, 1000000, MOST_TRUST - 1000000, 0, 1000000);
    }

    private static void goesOutOnce() {
        for (int trust : new int[] {0, 40, 100, 250}) {
            HourPromised x = houseOf(1, 100);
            if (trust > 0) {
                x.pay(0, trust);
            }
            x.tie(0, 0);
            x.promise(0, FIRE, 50);
            int sum = Math.min(trust, 100);
            due.is("23 once", x.settle(0), sum);
            due.is("23 NOT: it is PAID", x.settle(0), NOT);
            x.pay(0, 500);
            due.is("23 NOT: though there is money now", x.settle(0), NOT);
            x.undo(0, FIRE);
            due.is("23 NOT: undone", x.settle(0), NOT);
            x.promise(0, FIRE, 60);
            due.is("23 NOT: promised again", x.settle(0), NOT);
            x.undo(0, FIRE);
            x.promise(0, GRAVE, 60);
            due.is("23 NOT: the other one", x.settle(0), NOT);
            isPlan(x, 0, 100, trust - sum + 500, 0, sum);
            due.is("17 paid out so far", x.count(ALL_PAID_OUT), sum);
        }
    }

    private static void neitherIsPromised() {
        HourPromised x = houseOf(1, 100);
        x.pay(0, 100);
        x.tie(0, 0);
        due.is("23 NOT: nothing is promised", x.settle(0), NOT);
        x.promise(0, FETCH, 10);
        x.promise(0, SERVICE, 20);
        due.is("23 NOT: neither FIRE nor GRAVE", x.settle(0), NOT);
        x.promise(0, GRAVE, 30);
        x.undo(0, GRAVE);
        due.is("23 NOT: no longer", x.settle(0), NOT);
        x.promise(0, GRAVE, 399);
        Due.tellLaw(x, 0, "g:!;");
        due.is("23 NOT: undone by a law", x.settle(0), NOT);
        due.is("17 nothing went out", x.count(ALL_PAID_OUT), 0);
        due.is("12 the fire instead", x.promise(0, FIRE, 399), 1);
        due.is("23 now it is", x.settle(0), 100);
    }

    private static void paidWithoutPlan() {
        HourPromised x = houseOf(2, 100);
        x.pay(0, 100);
        x.pay(1, 100);
        x.tie(0, 0);
        x.promise(1, FIRE, 5);
        due.is("23 0: no PLAN", x.settle(1), 0);
        due.is("23 NOT: it is PAID", x.settle(1), NOT);
        due.is("17 nothing went out", x.count(ALL_PAID_OUT), 0);
        isPlan(x, 0, 100, 100, 0, 0);
        isPlan(x, 1, 100, 100, NONE, 0);
        // The PLAN is not tied and has not paid, and the CASE is not tied.
        due.is("22 tied too late", x.tie(1, 1), 1);
        due.is("23 NOT: it stays PAID", x.settle(1), NOT);
        isPlan(x, 1, 100, 100, 1, 0);
    }

    private static void afterItIsPaid() {
        HourPromised x = houseOf(2, 100);
        x.pay(0, 300);
        x.tie(0, 0);
        x.promise(0, GRAVE, 50);
        x.settle(0);
        due.is("22 NOT: it has paid", x.tie(0, 1), NOT);
        due.is("22 NOT: the CASE stays tied", x.tie(1, 0), NOT);
        x.rate(100);
        due.is("21 what is left grows", x.days(1), 202);
        due.is("19 and takes sums", x.pay(0, 8), 210);
        x.undo(0, GRAVE);
        due.is("22 NOT: undone, it has paid", x.tie(0, 1), NOT);
        isPlan(x, 0, 100, 210, 0, 100);
        due.is("17 nothing comes back", x.count(ALL_PAID_OUT), 100);
        due.is("22 the other plan is free", x.tie(1, 1), 1);
    }

    private static void allPaidOut() {
        HourPromised x = houseOf(16, 1000000);
        for (int k = 0; k < 16; k++) {
            x.pay(k, 1000000);
            x.tie(k, 15 - k);
            x.promise(15 - k, FIRE, 1 + k);
            due.is("23 the most that goes out", x.settle(15 - k), 1000000);
            due.is("17 paid out so far", x.count(ALL_PAID_OUT), (k + 1) * 1000000);
        }
        due.is("17 nothing is left", x.count(TRUST_OF_ALL), 0);
    }
}
