import java.util.ArrayList;
import java.util.List;

/** Long runs of calls, made by a fixed rule, on the class and on PlainModel at once: each answer must be the same. */
public final class ModelTest {
    /** A last law may take a hundred calls more, and an object answers 512. */
    private static final int RUNS = 450, CALLS_OF_A_RUN = 410;
    private static final String[] PIECES = {
        "f", "s", "b", "g", ":", ";", " ", "A", "B", "C", "D", "E", "F", "<", ">", "!", "0", "7", "12", "123", "1234",
        "<1", ">1", "G", "a", "?", "\u00ff"};

    private static final Due due = new Due();
    private static long seed;

    private HourPromised real = new HourPromised();
    private PlainModel model = new PlainModel();
    private final List<String> calls = new ArrayList<>();
    /** Runs differ in how wide the hours lie, how much the laws forbid, and how long they stand. */
    private final int width;
    private final boolean lawless;
    private final boolean steady;

    private ModelTest(int run) {
        width = run % 3 == 0 ? 7 : run % 3 == 1 ? 30 : 400;
        lawless = run % 4 == 0;
        steady = run % 4 > 1;
    }

    public static void main(String[] args) {
        for (int run = 0; run < RUNS && due.allRight(); run++) {
            seed = 1234567L + run * 7919L;
            new ModelTest(run).goOn();
        }
        texts();
        due.end("ModelTest");
    }

    private static int below(int n) {
        seed = seed * 6364136223846793005L + 1442695040888963407L;
        return (int) ((seed >>> 33) % n);
    }

    /** A number from least to most; now and then one beyond. */
    private static int near(int least, int most) {
        int dice = below(60);
        return dice == 0 ? least - 1 : dice == 1 ? most + 1 : least + below(most - least + 1);
    }

    private int hour() {
        return below(12) == 0 ? near(0, 399) : below(width);
    }

    private void same(String call, int got, int want) {
        calls.add(call + " = " + want);
        due.is("after " + calls.size() + " calls " + call, got, want);
        if (got != want) {
            System.out.println(model);
            System.out.println(calls);
        }
    }

    private void goOn() {
        setUp();
        while (calls.size() < CALLS_OF_A_RUN && due.allRight()) {
            int kind = below(100);
            if (kind < 55) {
                callOfCases();
            } else if (kind < 70) {
                callOfQuestions();
            } else if (kind < 82) {
                callOfMoney();
            } else if (kind < 92) {
                callOfTheHouse();
            } else if (!steady || below(15) == 0) {
                newLaw();
            }
        }
    }

    private void setUp() {
        int many = below(13);
        int breadth = 1 + below(71);
        for (int i = 0; i < many; i++) {
            bearer(140 + below(breadth));
        }
        for (int i = 2 + below(10); i > 0; i--) {
            casus();
            plan();
        }
        house(0, 4);
        if (steady) {
            tellChains();
        }
    }

    /** Laws under which one promise hangs on another and on a paper, so that much is undone at once. */
    private void tellChains() {
        for (int faith = 0; faith < 4; faith++) {
            feed(faith % 2 == 0 ? "f:A;s:f B;b:s<200;g:s;" : "f:;s:fA;b:s;g:s f C;");
            same("law(" + faith + ")", real.law(faith), model.law(faith));
        }
        for (int c = 0; c < model.count(0); c++) {
            for (int paper = 0; paper < 3; paper++) {
                same("paper(" + c + "," + paper + ",0)", real.paper(c, paper, 0), model.paper(c, paper, 0));
            }
        }
    }

    private void bearer(int height) {
        same("bearer(" + height + ")", real.bearer(height), model.bearer(height));
    }

    private void casus() {
        int faith = near(0, 3);
        int death = below(3) == 0 ? hour() : below(3);
        int needed = below(3) == 0 ? near(0, 6) : below(4);
        int span = below(3) == 0 ? near(0, 70) : below(15);
        same("casus(" + faith + "," + death + "," + needed + "," + span + ")",
                real.casus(faith, death, needed, span), model.casus(faith, death, needed, span));
    }

    private void house(int what, int v) {
        same("house(" + what + "," + v + ")", real.house(what, v), model.house(what, v));
    }

    private int anyCase() {
        return near(0, model.count(0) - 1);
    }

    private void callOfCases() {
        int c = anyCase();
        int step = near(0, 3);
        int hour = hour();
        switch (below(12)) {
            case 0:
                casus();
                break;
            case 1:
            case 2:
                int paper = below(2) == 0 ? 0 : near(0, 5);
                int by = below(5) == 0 ? -1 : below(2) == 0 ? below(4) : hour;
                same("paper(" + c + "," + paper + "," + by + ")", real.paper(c, paper, by), model.paper(c, paper, by));
                break;
            case 3:
                same("undo(" + c + "," + step + ")", real.undo(c, step), model.undo(c, step));
                break;
            case 4:
            case 5:
                same("may(" + c + "," + step + "," + hour + ")", real.may(c, step, hour), model.may(c, step, hour));
                break;
            case 6:
                same("earliest(" + c + "," + step + "," + hour + ")", real.earliest(c, step, hour),
                        model.earliest(c, step, hour));
                break;
            default:
                int first = below(2) == 0 ? model.earliest(c, step, Math.max(0, Math.min(399, hour))) : hour;
                same("promise(" + c + "," + step + "," + first + ")", real.promise(c, step, first),
                        model.promise(c, step, first));
                break;
        }
    }

    private void callOfQuestions() {
        int c = anyCase();
        int step = near(0, 3);
        int hour = hour();
        int what;
        switch (below(4)) {
            case 0:
                what = near(0, 5);
                same("taken(" + hour + "," + what + ")", real.taken(hour, what), model.taken(hour, what));
                break;
            case 1:
                what = near(0, 10);
                same("count(" + what + ")", real.count(what), model.count(what));
                break;
            default:
                what = near(0, 2);
                same("promised(" + c + "," + step + "," + what + ")", real.promised(c, step, what),
                        model.promised(c, step, what));
                break;
        }
    }

    private void plan() {
        int price = below(4) == 0 ? near(0, 1000000) : below(5000);
        same("plan(" + price + ")", real.plan(price), model.plan(price));
    }

    private void callOfMoney() {
        int plan = near(0, model.count(5) - 1);
        int c = anyCase();
        int sum = below(3) == 0 ? near(1, 1000000) : 1 + below(5000);
        switch (below(8)) {
            case 0:
                plan();
                break;
            case 1:
            case 2:
                same("pay(" + plan + "," + sum + ")", real.pay(plan, sum), model.pay(plan, sum));
                break;
            case 3:
                int rate = near(0, 100);
                same("rate(" + rate + ")", real.rate(rate), model.rate(rate));
                break;
            case 4:
                int days = below(2) == 0 ? near(0, 400) : below(5);
                same("days(" + days + ")", real.days(days), model.days(days));
                break;
            case 5:
                same("tie(" + plan + "," + c + ")", real.tie(plan, c), model.tie(plan, c));
                break;
            case 6:
                same("settle(" + c + ")", real.settle(c), model.settle(c));
                break;
            default:
                int what = near(0, 3);
                same("planned(" + plan + "," + what + ")", real.planned(plan, what), model.planned(plan, what));
                break;
        }
    }

    private void callOfTheHouse() {
        switch (below(4)) {
            case 0:
                bearer(near(140, 210));
                break;
            case 1:
                int what = near(0, 2);
                house(what, near(0, what == 0 ? 4 : what == 1 ? 3 : 8));
                break;
            default:
                int chapel = near(0, 2);
                int hours = near(0, 1023) | (below(2) == 0 ? 0 : below(1024));
                same("open(" + chapel + "," + hours + ")", real.open(chapel, hours), model.open(chapel, hours));
                break;
        }
    }

    private void newLaw() {
        int faith = near(0, 3);
        feed(below(4) == 0 ? jumble() : lawText());
        if (below(20) == 0) {
            feed(" ".repeat(95));
        }
        same("law(" + faith + ")", real.law(faith), model.law(faith));
        same("place()", real.place(), model.place());
        for (int i = 0; i < 3; i++) {
            int step = near(0, 3);
            int what = near(0, 4);
            same("says(" + faith + "," + step + "," + what + ")", real.says(faith, step, what),
                    model.says(faith, step, what));
        }
    }

    private void feed(String text) {
        int at = 0;
        while (at < text.length()) {
            int n = Math.min(1 + below(8), text.length() - at);
            long bytes = below(1 << 30) * 77777777777L;
            for (int k = 0; k < n; k++) {
                bytes = bytes << 8 | text.charAt(at + k);
            }
            same("feed(" + n + "," + bytes + ")", real.feed(n, bytes), model.feed(n, bytes));
            at += n;
        }
    }

    private static String jumble() {
        StringBuilder sb = new StringBuilder();
        for (int i = below(30); i > 0; i--) {
            sb.append(PIECES[below(PIECES.length)]);
        }
        return sb.toString();
    }

    /** A law that is mostly without faults, and seldom forbids all. */
    private String lawText() {
        StringBuilder sb = new StringBuilder();
        int first = below(4);
        for (int k = 0; k < 4; k++) {
            char step = "fsbg".charAt((first + k) % 4);
            if (below(lawless ? 4 : 2) == 0) {
                sb.append(step).append(below(3) == 0 ? " :" : ":");
                for (int i = below(4); i > 0; i--) {
                    sb.append(item(step)).append(below(3) == 0 ? " " : "");
                }
                sb.append(';');
            }
        }
        return sb.toString();
    }

    private String item(char step) {
        switch (below(lawless ? 8 : 11)) {
            case 0:
                return below(2) == 0 ? "<" + width : "< " + below(500);
            case 1:
                return ">" + below(9);
            case 2:
                return below(4) == 0 ? "!" : "";
            case 3:
            case 4:
                return "" + "ABCDEF".charAt(below(6));
            case 5:
                return "" + "fsbg".charAt(below(4));
            case 6:
                return "A";
            default:
                // A chain of steps, so that one that is undone undoes others.
                return step == 'f' ? "" : step == 's' ? "f" : "s";
        }
    }

    /** Many texts that are nearly laws: one piece of a good text is put in, left out or changed. */
    private static void texts() {
        seed = 99;
        for (int i = 0; i < 20000 && due.allRight(); i++) {
            ModelTest run = new ModelTest(1);
            String text = i % 3 == 0 ? jumble() : run.lawText() + run.lawText();
            if (i % 3 == 1 && !text.isEmpty()) {
                int at = below(text.length());
                text = text.substring(0, at) + PIECES[below(PIECES.length)] + text.substring(at + below(2));
            }
            run.feed(text);
            run.same("law(0) of " + text, run.real.law(0), run.model.law(0));
            run.same("place()", run.real.place(), run.model.place());
            for (int k = 0; k < 20; k++) {
                run.same("says(0," + k % 4 + "," + k / 4 + ")", run.real.says(0, k % 4, k / 4),
                        run.model.says(0, k % 4, k / 4));
            }
        }
    }
}
