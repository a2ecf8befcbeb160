/** Counts the answers that are not as due, and tells each of them. */
final class Due {
    private int wrong = 0;
    private int asked = 0;

    void is(String call, long got, long want) {
        asked++;
        if (got != want) {
            wrong++;
            System.out.println(call + " answered " + got + ", due is " + want);
        }
    }

    boolean allRight() {
        return wrong == 0;
    }

    /** Ends the program with exit code 1 if an answer was wrong. */
    void end(String name) {
        System.out.println(name + ": " + asked + " answers, " + wrong + " not as due");
        if (wrong != 0) {
            System.exit(1);
        }
    }

    /** Feeds a whole text, eight bytes a call. */
    static int feedText(HourPromised x, String text) {
        int answer = x.count(4);
        for (int at = 0; at < text.length(); at += 8) {
            int n = Math.min(8, text.length() - at);
            long bytes = 0;
            for (int k = 0; k < n; k++) {
                bytes = bytes << 8 | text.charAt(at + k) & 255;
            }
            answer = x.feed(n, bytes);
        }
        return answer;
    }

    /** Feeds a text and makes it the law of a faith. */
    static int tellLaw(HourPromised x, int faith, String text) {
        feedText(x, text);
        return x.law(faith);
    }
}
