import java.util.ArrayList;
import java.util.Arrays;
import java.util.List;
import java.util.TreeMap;

/**
 * The document told a second time, as plainly as can be and with nothing kept that can be reckoned anew: ModelTest
 * holds the class against it. Promises are keyed by 4 times the case plus the step, which is the document's order.
 */
final class PlainModel {
    private static final int NONE = -1, UNKNOWN = -1001, OUTSIDE = -1002, NOT = -1003, FULL = -1004;
    private static final String STEP_LETTERS = "fsbg";

    private final int[] stock = {3, 1, 4};
    private final int[] chapels = {1023, 1023, 1023};
    private final List<Integer> heights = new ArrayList<>();
    private String text = "";
    private final String[] laws = {"", "", "", ""};
    private int place = NONE;
    /** Faith, death, needed, span; then the papers; then whether it is paid. */
    private final List<int[]> cases = new ArrayList<>();
    private final TreeMap<Integer, Integer> promises = new TreeMap<>();
    private int undone = 0;
    /** Price, trust, case, paid out. */
    private final List<int[]> plans = new ArrayList<>();
    private int rate = 0;
    private int paidOut = 0;

    int house(int what, int v) {
        int[] most = {4, 3, 8};
        int[] row = {0, 2, 3};
        if (what < 0 || what > 2 || v < 0 || v > most[what]) {
            return OUTSIDE;
        }
        for (int hour = 0; hour < 400; hour++) {
            if (taken(hour, row[what]) > v) {
                return NOT;
            }
        }
        int was = stock[what];
        stock[what] = v;
        return was;
    }

    int open(int chapel, int hours) {
        if (chapel < 0 || chapel > 2) {
            return UNKNOWN;
        }
        if (hours < 0 || hours > 1023) {
            return OUTSIDE;
        }
        int was = chapels[chapel];
        chapels[chapel] = hours;
        for (int key : promises.keySet()) {
            if (key % 4 == 1 && chapelOf(key) == NONE) {
                chapels[chapel] = was;
                return NOT;
            }
        }
        return was;
    }

    int bearer(int height) {
        if (height < 140 || height > 210) {
            return OUTSIDE;
        }
        if (heights.size() == 12) {
            return FULL;
        }
        heights.add(height);
        return heights.size() - 1;
    }

    int feed(int n, long bytes) {
        if (n < 1 || n > 8) {
            return OUTSIDE;
        }
        if (text.length() + n > 100) {
            return FULL;
        }
        String eight = "";
        for (int k = 0; k < 8; k++) {
            eight = (char) (bytes >> 8 * k & 255) + eight;
        }
        text += eight.substring(8 - n);
        return text.length();
    }

    int law(int faith) {
        if (faith < 0 || faith > 3) {
            return UNKNOWN;
        }
        String told = text;
        text = "";
        int[] fault = faultOf(told);
        place = fault[1];
        if (fault[0] != 0) {
            return -10 - fault[0];
        }
        laws[faith] = told.replace(" ", "");
        return undoBroken(faith, NONE);
    }

    int place() {
        return place;
    }

    /**
     * The fault and its byte. Blanks are left out with the places kept, the numbers being read first; what cannot
     * stand is found by asking whether each longer beginning can still become a law.
     */
    static int[] faultOf(String told) {
        for (int at = 0; at < told.length(); at++) {
            int least = least(told, at);
            if (least != 0) {
                return new int[] {least, at};
            }
        }
        return told.matches("( *[fsbg] *:( *([A-F!fsbg]|[<>] *[0-9]+))* *;)* *") ? new int[] {0, NONE}
                : new int[] {1, told.length()};
    }

    /** The least fault at a byte, all bytes ahead of it being without one. */
    private static int least(String told, int at) {
        String upTo = told.substring(0, at + 1);
        String clause = "[fsbg] *(:( *([A-F!fsbg]|[<>] *[0-9]+))*( *[<>])? *)?";
        if (!upTo.matches("( *[fsbg] *:( *([A-F!fsbg]|[<>] *[0-9]+))* *;)* *(" + clause + ")?")) {
            return 1;
        }
        char b = told.charAt(at);
        if (b >= '0' && b <= '9' && told.substring(at).matches("(?s)[0-9]{4}.*")
                && !(at > 0 && Character.isDigit(told.charAt(at - 1)))) {
            return 2;
        }
        String ahead = told.substring(0, at).replace(" ", "");
        String inClause = ahead.substring(ahead.lastIndexOf(';') + 1);
        if (inClause.isEmpty()) {
            return b != ' ' && (";" + ahead).contains(";" + b) ? 3 : 0;
        }
        if (inClause.length() >= 2 && "ABCDEF!<>fsbg".indexOf(b) >= 0) {
            return inClause.indexOf(b, 2) >= 0 ? 4 : inClause.charAt(0) == b ? 5 : 0;
        }
        return 0;
    }

    int says(int faith, int step, int what) {
        if (faith < 0 || faith > 3) {
            return UNKNOWN;
        }
        if (step < 0 || step > 3 || what < 0 || what > 4) {
            return OUTSIDE;
        }
        String items = itemsOf(faith, step);
        switch (what) {
            case 0:
                return setOf(items, "ABCDEF");
            case 1:
                return boundIn(items, '<');
            case 2:
                return boundIn(items, '>');
            case 3:
                return items.indexOf('!') >= 0 ? 1 : 0;
            default:
                return setOf(items, STEP_LETTERS);
        }
    }

    private String itemsOf(int faith, int step) {
        for (String clause : laws[faith].split(";")) {
            if (clause.startsWith(STEP_LETTERS.charAt(step) + ":")) {
                return clause.substring(2);
            }
        }
        return "";
    }

    private static int setOf(String items, String letters) {
        int set = 0;
        for (int k = 0; k < letters.length(); k++) {
            set += items.indexOf(letters.charAt(k)) >= 0 ? 1 << k : 0;
        }
        return set;
    }

    private static int boundIn(String items, char sign) {
        int at = items.indexOf(sign);
        return at < 0 ? NONE : Integer.parseInt(items.substring(at + 1).split("[^0-9]")[0]);
    }

    int casus(int faith, int death, int needed, int span) {
        if (faith < 0 || faith > 3) {
            return UNKNOWN;
        }
        if (death < 0 || death > 399 || needed < 0 || needed > 6 || span < 0 || span > 70) {
            return OUTSIDE;
        }
        if (cases.size() == 16) {
            return FULL;
        }
        cases.add(new int[] {faith, death, needed, span, NONE, NONE, NONE, NONE, NONE, NONE, 0});
        return cases.size() - 1;
    }

    private boolean noCase(int c) {
        return c < 0 || c >= cases.size();
    }

    int paper(int c, int paper, int hour) {
        if (noCase(c)) {
            return UNKNOWN;
        }
        if (paper < 0 || paper > 5 || hour < NONE || hour > 399) {
            return OUTSIDE;
        }
        cases.get(c)[4 + paper] = hour;
        return undoBroken(NONE, c);
    }

    /** Undoes what is broken in one case, or in those of a faith. */
    private int undoBroken(int faith, int c) {
        int sum = 0;
        boolean again = true;
        while (again) {
            again = false;
            for (int key : promises.keySet()) {
                boolean concerned = key / 4 == c || cases.get(key / 4)[0] == faith;
                if (concerned && lawHinders(key, promises.get(key)) != 0) {
                    promises.remove(key);
                    sum++;
                    again = true;
                    break;
                }
            }
        }
        undone += sum;
        return sum;
    }

    private int hourOf(int key) {
        return promises.getOrDefault(key, NONE);
    }

    private int lawHinders(int key, int hour) {
        int[] file = cases.get(key / 4);
        int step = key % 4;
        if (hour <= file[1]) {
            return 2;
        }
        if (says(file[0], step, 3) == 1) {
            return 3;
        }
        for (int paper = 0; paper < 6; paper++) {
            boolean come = file[4 + paper] != NONE && file[4 + paper] <= hour;
            if ((says(file[0], step, 0) >> paper & 1) == 1 && !come) {
                return 4;
            }
        }
        int most = says(file[0], step, 1);
        int least = says(file[0], step, 2);
        if (most != NONE && hour > file[1] + most || least != NONE && hour < file[1] + least) {
            return 5;
        }
        for (int other = 0; other < 4; other++) {
            int its = hourOf(key - step + other);
            if ((says(file[0], step, 4) >> other & 1) == 1 && (its == NONE || its >= hour)) {
                return 6;
            }
        }
        return 0;
    }

    int may(int c, int step, int hour) {
        if (noCase(c)) {
            return UNKNOWN;
        }
        if (step < 0 || step > 3 || hour < 0 || hour > 399) {
            return OUTSIDE;
        }
        int key = 4 * c + step;
        if (promises.containsKey(key)) {
            return 1;
        }
        int hinders = lawHinders(key, hour);
        return hinders != 0 ? hinders : othersHinder(c, step, hour);
    }

    private int othersHinder(int c, int step, int hour) {
        for (int other = 0; other < 4; other++) {
            int its = hourOf(4 * c + other);
            if (its != NONE && its <= hour && (says(cases.get(c)[0], other, 4) >> step & 1) == 1) {
                return 7;
            }
        }
        if (step >= 2 && promises.containsKey(4 * c + 5 - step)) {
            return 8;
        }
        for (int other = 0; other < 4; other++) {
            if (hourOf(4 * c + other) == hour) {
                return 9;
            }
        }
        if (taken(hour, 0) >= stock[0]) {
            return 10;
        }
        return placeLacks(c, step, hour) ? 11 : bearersLack(4 * c + step, hour) ? 12 : 0;
    }

    private boolean placeLacks(int c, int step, int hour) {
        if (step == 0) {
            for (int h = hour; h <= lastRoomHour(c); h++) {
                if (taken(h, 3) >= stock[2]) {
                    return true;
                }
            }
        }
        if (step == 1) {
            int open = 0;
            for (int chapel : chapels) {
                open += chapel >> hour % 10 & 1;
            }
            return taken(hour, 1) >= open;
        }
        return step == 2 && taken(hour, 2) >= stock[1];
    }

    private int lastRoomHour(int c) {
        int last = 399;
        for (int step = 2; step < 4; step++) {
            if (promises.containsKey(4 * c + step)) {
                last = Math.min(last, hourOf(4 * c + step) - 1);
            }
        }
        return last;
    }

    private boolean bearersLack(int key, int hour) {
        promises.put(key, hour);
        boolean lack = setsOf(hour) == null;
        promises.remove(key);
        return lack;
    }

    /** The keys of an hour's promises that take bearers, each with its set; null if there are no such sets. */
    private TreeMap<Integer, Integer> setsOf(int hour) {
        List<Integer> keys = new ArrayList<>();
        for (int key : promises.keySet()) {
            if (promises.get(key) == hour && key % 2 == 1) {
                keys.add(key);
            }
        }
        TreeMap<Integer, Integer> sets = new TreeMap<>();
        return choose(keys, 0, 0, sets) ? sets : null;
    }

    private boolean choose(List<Integer> keys, int at, int away, TreeMap<Integer, Integer> sets) {
        if (at == keys.size()) {
            return true;
        }
        int[] file = cases.get(keys.get(at) / 4);
        for (int set : rowsInOrder(file[2], file[3])) {
            if ((set & away) == 0 && choose(keys, at + 1, away | set, sets)) {
                sets.put(keys.get(at), set);
                return true;
            }
        }
        return false;
    }

    /** All sets of so many bearers within a span, in the order of their rising rows. */
    private List<Integer> rowsInOrder(int needed, int span) {
        List<Integer> rows = new ArrayList<>();
        for (int set = 0; set < 1 << heights.size(); set++) {
            int low = 1000;
            int high = 0;
            for (int i = 0; i < heights.size(); i++) {
                if ((set >> i & 1) == 1) {
                    low = Math.min(low, heights.get(i));
                    high = Math.max(high, heights.get(i));
                }
            }
            if (Integer.bitCount(set) == needed && high - low <= span) {
                rows.add(set);
            }
        }
        // Of two rows of one length the one with the lower number where they first differ is the lesser one, which
        // is the greater one of the sets when they are read from their lowest bit on.
        rows.sort((a, b) -> Integer.compareUnsigned(Integer.reverse(b), Integer.reverse(a)));
        return rows;
    }

    int promise(int c, int step, int hour) {
        int answer = may(c, step, hour);
        if (answer < 0) {
            return answer;
        }
        if (answer > 0) {
            return NOT;
        }
        promises.put(4 * c + step, hour);
        return 1;
    }

    int earliest(int c, int step, int from) {
        if (from < 0 || from > 399) {
            return noCase(c) ? UNKNOWN : OUTSIDE;
        }
        for (int hour = from; hour < 400; hour++) {
            int answer = may(c, step, hour);
            if (answer <= 0) {
                return answer < 0 ? answer : hour;
            }
        }
        return NONE;
    }

    int undo(int c, int step) {
        if (noCase(c)) {
            return UNKNOWN;
        }
        if (step < 0 || step > 3) {
            return OUTSIDE;
        }
        if (promises.remove(4 * c + step) == null) {
            return NOT;
        }
        undone++;
        return 1 + undoBroken(NONE, c);
    }

    int promised(int c, int step, int what) {
        if (noCase(c)) {
            return UNKNOWN;
        }
        if (step < 0 || step > 3 || what < 0 || what > 2) {
            return OUTSIDE;
        }
        int key = 4 * c + step;
        if (what == 0) {
            return hourOf(key);
        }
        if (what == 1) {
            return step == 1 && promises.containsKey(key) ? chapelOf(key) : NONE;
        }
        return promises.containsKey(key) ? setsOf(hourOf(key)).getOrDefault(key, 0) : 0;
    }

    private int chapelOf(int wanted) {
        int hour = hourOf(wanted);
        boolean[] gone = new boolean[3];
        for (int key : promises.keySet()) {
            if (key % 4 != 1 || promises.get(key) != hour) {
                continue;
            }
            int least = NONE;
            for (int chapel = 2; chapel >= 0; chapel--) {
                least = !gone[chapel] && (chapels[chapel] >> hour % 10 & 1) == 1 ? chapel : least;
            }
            if (key == wanted || least == NONE) {
                return least;
            }
            gone[least] = true;
        }
        return NONE;
    }

    int taken(int hour, int what) {
        if (hour < 0 || hour > 399 || what < 0 || what > 5) {
            return OUTSIDE;
        }
        int[] sums = new int[6];
        for (int key : promises.keySet()) {
            int step = key % 4;
            int its = promises.get(key);
            if (its == hour) {
                sums[0]++;
                sums[5]++;
                sums[1] += step == 1 ? 1 : 0;
                sums[2] += step == 2 ? 1 : 0;
                sums[4] += step == 1 || step == 3 ? cases.get(key / 4)[2] : 0;
            }
            sums[3] += step == 0 && its <= hour && hour <= lastRoomHour(key / 4) ? 1 : 0;
        }
        return sums[what];
    }

    int count(int what) {
        int trust = 0;
        for (int[] plan : plans) {
            trust += plan[1];
        }
        int[] counts = {cases.size(), heights.size(), promises.size(), undone, text.length(), plans.size(), trust,
            paidOut, stock[0], stock[1], stock[2]};
        return what < 0 || what >= counts.length ? OUTSIDE : counts[what];
    }

    int plan(int price) {
        if (price < 0 || price > 1000000) {
            return OUTSIDE;
        }
        if (plans.size() == 16) {
            return FULL;
        }
        plans.add(new int[] {price, 0, NONE, 0});
        return plans.size() - 1;
    }

    private boolean noPlan(int plan) {
        return plan < 0 || plan >= plans.size();
    }

    int pay(int plan, int sum) {
        if (noPlan(plan)) {
            return UNKNOWN;
        }
        if (sum < 1 || sum > 1000000) {
            return OUTSIDE;
        }
        if (plans.get(plan)[1] > 100000000 - sum) {
            return NOT;
        }
        return plans.get(plan)[1] += sum;
    }

    int rate(int v) {
        if (v < 0 || v > 100) {
            return OUTSIDE;
        }
        int was = rate;
        rate = v;
        return was;
    }

    int days(int n) {
        if (n < 0 || n > 400) {
            return OUTSIDE;
        }
        for (int day = 0; day < n; day++) {
            for (int[] plan : plans) {
                plan[1] = (int) Math.min(100000000L, plan[1] + plan[1] * (long) rate / 10000);
            }
        }
        return count(6);
    }

    int tie(int plan, int c) {
        if (noPlan(plan) || noCase(c)) {
            return UNKNOWN;
        }
        for (int[] other : plans) {
            if (other[2] == c) {
                return NOT;
            }
        }
        if (plans.get(plan)[2] != NONE) {
            return NOT;
        }
        plans.get(plan)[2] = c;
        return 1;
    }

    int settle(int c) {
        if (noCase(c)) {
            return UNKNOWN;
        }
        int[] file = cases.get(c);
        if (file[10] == 1 || hourOf(4 * c + 2) == NONE && hourOf(4 * c + 3) == NONE) {
            return NOT;
        }
        file[10] = 1;
        for (int[] plan : plans) {
            if (plan[2] == c) {
                plan[3] = Math.min(plan[0], plan[1]);
                plan[1] -= plan[3];
                paidOut += plan[3];
                return plan[3];
            }
        }
        return 0;
    }

    int planned(int plan, int what) {
        if (noPlan(plan)) {
            return UNKNOWN;
        }
        return what < 0 || what > 3 ? OUTSIDE : plans.get(plan)[what];
    }

    @Override
    public String toString() {
        return "laws " + Arrays.toString(laws) + " promises " + promises + " heights " + heights;
    }
}
