/** Part 3 of the terms on bearers, with hindrance 12 and promises 4, 15 and 16: how many, how like, and which. */
public final class BearersTest {
    private static final int FULL = HourPromised.FULL, NOT = HourPromised.NOT;
    private static final int SERVICE = 1, GRAVE = 3;
    private static final int BEARERS_TAKEN = 4;

    private static final Due due = new Due();

    public static void main(String[] args) {
        twelveAtMost();
        asManyAsAreNeeded();
        heightsDifferBySpanAtMost();
        sumOfAnHour();
        noneInTwoSets();
        firstInTheOrderOfRows();
        firstThatLeavesSetsForTheOthers();
        byCasesThenSteps();
        othersGiveWay();
        hoursDoNotShare();
        noneNeeded();
        due.end("BearersTest");
    }

    private static HourPromised houseOf(int... heights) {
        HourPromised x = new HourPromised();
        x.house(0, 4);
        for (int height : heights) {
            x.bearer(height);
        }
        return x;
    }

    private static int[] alike(int many) {
        int[] heights = new int[many];
        java.util.Arrays.fill(heights, 175);
        return heights;
    }

    private static void twelveAtMost() {
        HourPromised x = new HourPromised();
        for (int i = 0; i < 12; i++) {
            due.is("4 a refused one takes no number", x.bearer(139), HourPromised.OUTSIDE);
            due.is("17 bearers", x.count(1), i);
            due.is("4 numbers from 0 on", x.bearer(140 + i), i);
        }
        due.is("4 twelve at most", x.bearer(175), FULL);
        due.is("17 twelve", x.count(1), 12);
        x.casus(0, 0, 1, 0);
        due.is("12 one of them", x.promise(0, GRAVE, 5), 1);
        due.is("15 the first", x.promised(0, GRAVE, 2), 1);
    }

    private static void asManyAsAreNeeded() {
        for (int needed = 1; needed <= 6; needed++) {
            for (int step = SERVICE; step <= GRAVE; step += 2) {
                HourPromised x = houseOf(alike(needed - 1));
                x.casus(0, 0, needed, 0);
                due.is("11.12 one too few of " + needed, x.may(0, step, 9), 12);
                due.is("13 in no hour", x.earliest(0, step, 0), HourPromised.NONE);
                due.is("12 NOT", x.promise(0, step, 9), NOT);
                x.bearer(175);
                due.is("11.12 enough", x.may(0, step, 9), 0);
                x.bearer(175);
                due.is("12 more than enough", x.promise(0, step, 9), 1);
                due.is("15 as many as are needed", x.promised(0, step, 2), (1 << needed) - 1);
                due.is("16 so many are taken", x.taken(9, BEARERS_TAKEN), needed);
            }
        }
    }

    private static void heightsDifferBySpanAtMost() {
        for (int span : new int[] {0, 1, 35, 69, 70}) {
            HourPromised x = houseOf(140);
            x.casus(0, 0, 2, span);
            if (span < 70) {
                x.bearer(140 + span + 1);
                due.is("11.12 one more than span " + span, x.may(0, GRAVE, 9), 12);
            }
            x.bearer(140 + span);
            due.is("11.12 by the span itself, " + span, x.may(0, GRAVE, 9), 0);
            x = houseOf(210);
            x.casus(0, 0, 2, span);
            if (span < 70) {
                x.bearer(210 - span - 1);
                due.is("11.12 lower by one more than span " + span, x.may(0, GRAVE, 9), 12);
            }
            x.bearer(210 - span);
            due.is("11.12 lower by the span itself, " + span, x.may(0, GRAVE, 9), 0);
        }
        // Each goes with its neighbour, but the first does not go with the last.
        HourPromised x = houseOf(150, 155, 160);
        x.casus(0, 0, 3, 9);
        x.casus(0, 0, 3, 10);
        due.is("11.12 the least and the greatest differ by more", x.may(0, SERVICE, 9), 12);
        due.is("11.12 by no more", x.may(1, SERVICE, 9), 0);
        x = houseOf(160, 150, 155);
        x.casus(0, 0, 3, 9);
        due.is("11.12 whatever their order", x.may(0, SERVICE, 9), 12);
    }

    private static void sumOfAnHour() {
        int[][] rows = {{6, 6}, {4, 4, 4}, {3, 3, 3, 3}, {6, 5, 1}, {6, 3, 2, 1}};
        for (int[] row : rows) {
            HourPromised x = houseOf(alike(11));
            for (int needed : row) {
                x.casus(0, 0, needed, 0);
            }
            for (int c = 0; c < row.length - 1; c++) {
                due.is("12 there are some", x.promise(c, GRAVE, 9), 1);
            }
            int last = row.length - 1;
            due.is("11.12 twelve of eleven", x.may(last, GRAVE, 9), 12);
            x.bearer(175);
            due.is("11.12 twelve of twelve", x.promise(last, GRAVE, 9), 1);
            due.is("16 all are taken", x.taken(9, BEARERS_TAKEN), 12);
            int all = 0;
            for (int c = 0; c < row.length; c++) {
                int set = x.promised(c, GRAVE, 2);
                due.is("15 the next ones in a row", set, ((1 << row[c]) - 1) << Integer.bitCount(all));
                all |= set;
            }
            due.is("15 to the last one", all, 4095);
        }
    }

    private static void noneInTwoSets() {
        HourPromised x = houseOf(150, 170, 190);
        x.casus(0, 0, 2, 20);
        x.casus(0, 0, 2, 20);
        x.casus(0, 0, 1, 0);
        x.promise(0, SERVICE, 9);
        due.is("11.12 the one in the middle cannot go twice", x.may(1, GRAVE, 9), 12);
        due.is("11.12 one is left", x.promise(2, GRAVE, 9), 1);
        due.is("15 not one of the others'", x.promised(2, GRAVE, 2), 4);
    }

    private static void firstInTheOrderOfRows() {
        // The row 0 3 is ahead of the row 1 2, though its set is the greater number.
        HourPromised x = houseOf(180, 150, 150, 180);
        x.casus(0, 0, 2, 0);
        x.promise(0, GRAVE, 9);
        due.is("15 0 3 is ahead of 1 2", x.promised(0, GRAVE, 2), 1 | 8);
        x = houseOf(180, 140, 180, 210, 180, 140, 210, 210, 210, 180, 140, 180);
        x.casus(0, 0, 3, 0);
        x.casus(0, 0, 3, 0);
        x.casus(0, 0, 2, 0);
        x.casus(0, 0, 4, 0);
        x.promise(0, GRAVE, 9);
        x.promise(1, GRAVE, 9);
        x.promise(2, GRAVE, 9);
        due.is("15 the first three of a height", x.promised(0, GRAVE, 2), 1 | 4 | 16);
        due.is("15 then the first three of another", x.promised(1, GRAVE, 2), 2 | 32 | 1024);
        due.is("15 then two", x.promised(2, GRAVE, 2), 8 | 64);
        due.is("11.12 four of one height, if two give way", x.promise(3, GRAVE, 9), 1);
        due.is("15 the first three stay", x.promised(0, GRAVE, 2), 1 | 4 | 16);
        due.is("15 so do the second", x.promised(1, GRAVE, 2), 2 | 32 | 1024);
        due.is("15 the two are the last ones now", x.promised(2, GRAVE, 2), 512 | 2048);
        due.is("15 the four", x.promised(3, GRAVE, 2), 8 | 64 | 128 | 256);
        x.undo(3, GRAVE);
        x.undo(0, GRAVE);
        x.undo(1, GRAVE);
        due.is("15 two, alone", x.promised(2, GRAVE, 2), 1 | 4);
        x.promise(3, GRAVE, 9);
        due.is("15 two of those of which there are five", x.promised(2, GRAVE, 2), 1 | 4);
        due.is("15 four of those of which there are four", x.promised(3, GRAVE, 2), 8 | 64 | 128 | 256);
    }

    private static void firstThatLeavesSetsForTheOthers() {
        HourPromised x = houseOf(160, 161, 162, 163, 164, 165);
        x.casus(0, 0, 2, 70);
        x.casus(0, 0, 2, 1);
        x.casus(0, 0, 2, 1);
        x.promise(0, GRAVE, 9);
        due.is("15 alone: the first row", x.promised(0, GRAVE, 2), 1 | 2);
        x.promise(1, GRAVE, 9);
        due.is("15 still the first row", x.promised(0, GRAVE, 2), 1 | 2);
        due.is("15 the second one behind it", x.promised(1, GRAVE, 2), 4 | 8);
        x.promise(2, GRAVE, 9);
        due.is("15 the first of three", x.promised(0, GRAVE, 2), 1 | 2);
        due.is("15 the second of three", x.promised(1, GRAVE, 2), 4 | 8);
        due.is("15 the third of three", x.promised(2, GRAVE, 2), 16 | 32);
        // The first row would leave no set for the second one, nor would the next ones.
        x = houseOf(150, 160, 161, 180);
        x.casus(0, 0, 2, 70);
        x.casus(0, 0, 2, 1);
        x.promise(0, GRAVE, 9);
        due.is("15 alone", x.promised(0, GRAVE, 2), 1 | 2);
        x.promise(1, SERVICE, 9);
        due.is("15 the first row that leaves a set", x.promised(0, GRAVE, 2), 1 | 8);
        due.is("15 that set", x.promised(1, SERVICE, 2), 2 | 4);
        x.undo(1, SERVICE);
        due.is("15 the first row again", x.promised(0, GRAVE, 2), 1 | 2);
    }

    private static void byCasesThenSteps() {
        // Steps of one case never share an hour; a service and a grave of two cases do, and the cases tell their order.
        for (int first = 0; first < 2; first++) {
            for (int turn = 0; turn < 2; turn++) {
                HourPromised x = houseOf(alike(5));
                x.casus(0, 0, 2, 0);
                x.casus(0, 0, 3, 0);
                int[] steps = {turn == 0 ? GRAVE : SERVICE, turn == 0 ? SERVICE : GRAVE};
                x.promise(first, steps[first], 9);
                x.promise(1 - first, steps[1 - first], 9);
                due.is("15 the first case", x.promised(0, steps[0], 2), 1 | 2);
                due.is("15 the second case", x.promised(1, steps[1], 2), 4 | 8 | 16);
                due.is("15 no other step has any", x.promised(0, steps[1], 2), 0);
            }
        }
    }

    private static void othersGiveWay() {
        HourPromised x = houseOf(170, 171);
        x.casus(0, 0, 1, 0);
        x.casus(0, 0, 1, 0);
        x.casus(0, 0, 2, 70);
        x.promise(1, GRAVE, 9);
        due.is("15 the first bearer", x.promised(1, GRAVE, 2), 1);
        due.is("11.12 one is left, not two", x.may(2, GRAVE, 9), 12);
        x.promise(0, SERVICE, 9);
        due.is("15 it gives way to an earlier case", x.promised(1, GRAVE, 2), 2);
        due.is("15 which has the first one now", x.promised(0, SERVICE, 2), 1);
        x.bearer(140);
        due.is("15 a new one changes nothing", x.promised(1, GRAVE, 2), 2);
        due.is("11.12 one is left again", x.may(2, GRAVE, 9), 12);
        x.bearer(210);
        due.is("11.12 two are left, by 70", x.may(2, GRAVE, 9), 0);
    }

    private static void hoursDoNotShare() {
        HourPromised x = houseOf(alike(6));
        x.casus(0, 0, 6, 0);
        x.casus(0, 0, 6, 0);
        x.promise(0, SERVICE, 9);
        due.is("11.12 all are away in that hour", x.may(1, SERVICE, 9), 12);
        due.is("12 not in the next", x.promise(1, SERVICE, 10), 1);
        due.is("12 nor in the one ahead", x.promise(1, GRAVE, 8), 1);
        due.is("15 the same ones", x.promised(0, SERVICE, 2), 63);
        due.is("15 an hour later", x.promised(1, SERVICE, 2), 63);
        due.is("15 an hour earlier", x.promised(1, GRAVE, 2), 63);
        due.is("13 the first hour with bearers", x.earliest(0, GRAVE, 8), 11);
    }

    private static void noneNeeded() {
        HourPromised x = houseOf();
        x.casus(0, 0, 0, 0);
        due.is("12 no bearers, none needed", x.promise(0, SERVICE, 9), 1);
        due.is("15 an empty set", x.promised(0, SERVICE, 2), 0);
        due.is("16 none is taken", x.taken(9, BEARERS_TAKEN), 0);
        x.bearer(170);
        x.casus(0, 0, 1, 0);
        due.is("12 one beside it", x.promise(1, GRAVE, 9), 1);
        due.is("15 still an empty set", x.promised(0, SERVICE, 2), 0);
        due.is("15 the only one", x.promised(1, GRAVE, 2), 1);
        x.casus(0, 0, 0, 70);
        due.is("12 none needed where all are taken", x.promise(2, GRAVE, 9), 1);
        x = houseOf(alike(12));
        for (int needed : new int[] {6, 0, 6, 0}) {
            int c = x.casus(0, 0, needed, 0);
            due.is("12 all twelve, and none", x.promise(c, GRAVE, 9), 1);
        }
        int[] sets = {63, 0, 4032, 0};
        for (int c = 0; c < sets.length; c++) {
            due.is("15 all twelve, and none", x.promised(c, GRAVE, 2), sets[c]);
        }
        due.is("16 all twelve", x.taken(9, BEARERS_TAKEN), 12);
    }
}
