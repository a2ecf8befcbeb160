/** Part 2 of the terms, and promises 5 to 8: THE TEXT, what a law's text may hold, and its faults with their bytes. */
public final class LawTextTest {
    private static final int NONE = HourPromised.NONE, OUTSIDE = HourPromised.OUTSIDE, FULL = HourPromised.FULL;
    private static final int FETCH = 0, SERVICE = 1, FIRE = 2, GRAVE = 3;
    private static final int PAPERS = 0, AT_MOST = 1, AT_LEAST = 2, NEVER = 3, AHEAD = 4;
    private static final String STEPS = "fsbg";
    private static final String FIGURES = "0123456789";

    private static final Due due = new Due();

    public static void main(String[] args) {
        textHasItsBounds();
        feedTakesTheLowBytes();
        everyByteInEveryPlace();
        blanksAnywhereButWithinANumber();
        anyNumberOfItems();
        everyLetterOfEveryStep();
        everyNumber();
        numbersOfFourFigures();
        faultsOfRepetition();
        theLeastFaultOfTheFirstByte();
        theEndAtTheTextsLength();
        aHundredBytes();
        mixedTexts();
        everyShortText();
        faultLeavesTheLawAsItWas();
        placeOfTheLatest();
        due.end("LawTextTest");
    }

    // ---- the text

    private static void textHasItsBounds() {
        for (int n = 1; n <= 8; n++) {
            HourPromised x = new HourPromised();
            Due.feedText(x, " ".repeat(100 - n));
            due.is("5 a hundred bytes at most, " + n + " at once", x.feed(n, 0x2020202020202020L), 100);
            due.is("5 no more", x.feed(n, 0x2020202020202020L), FULL);
            x = new HourPromised();
            Due.feedText(x, " ".repeat(101 - n));
            due.is("5 FULL, though some of them would fit", x.feed(n, 0x2020202020202020L), FULL);
            due.is("5 none of them came", x.count(4), 101 - n);
            due.is("5 nor do they spoil it", x.law(0), 0);
            due.is("6 it is empty then", x.count(4), 0);
            due.is("5 it takes bytes again", x.feed(n, 0x2020202020202020L), n);
        }
    }

    private static void feedTakesTheLowBytes() {
        // Read from the highest byte on, all eight are "f:A<45;" behind a blank; fewer of them end in the same way.
        long bytes = 0x20663A413C34353BL;
        HourPromised x = new HourPromised();
        due.is("5 eight bytes", x.feed(8, bytes), 8);
        due.is("5 the highest first", x.law(0), 0);
        due.is("5 its paper", x.says(0, FETCH, PAPERS), 1);
        due.is("5 its bound", x.says(0, FETCH, AT_MOST), 45);
        due.is("5 seven bytes", x.feed(7, bytes | 0xFF00000000000000L), 7);
        due.is("5 what is above them does not come", x.law(1), 0);
        due.is("5 its bound again", x.says(1, FETCH, AT_MOST), 45);
        for (int n = 1; n <= 6; n++) {
            x.feed(n, bytes);
            due.is("5 the lower " + n + " bytes are no law", x.law(1), -11);
            due.is("5 by the highest of them", x.place(), 0);
        }
        due.is("5 a byte of sign", x.feed(8, Long.MIN_VALUE), 8);
        due.is("5 is a byte", x.law(0), -11);
        due.is("5 that is the first", x.place(), 0);
        due.is("5 of all bits the lowest eight", x.feed(1, -224L), 1);
        due.is("5 are a blank", x.law(0), 0);
        due.is("5 n below", x.feed(-8, bytes), OUTSIDE);
    }

    // ---- what may stand where

    private static final String ITEMS = "ABCDEF<>!fsbg";

    private static void everyByteInEveryPlace() {
        everyByteBehind("", " ", " " + STEPS, "", "", "");
        everyByteBehind(" ", " ", " " + STEPS, "", "", "");
        everyByteBehind("f", "", " :", "", "", "");
        everyByteBehind("f ", "", " :", "", "", "");
        everyByteBehind("f:", ";", " ;" + ITEMS, "", "", "f");
        everyByteBehind("g: ", ";", " ;" + ITEMS, "", "", "g");
        everyByteBehind("s:A", ";", " ;" + ITEMS, "", "A", "s");
        everyByteBehind("b:!", ";", " ;" + ITEMS, "", "!", "b");
        everyByteBehind("f:s", ";", " ;" + ITEMS, "", "s", "f");
        everyByteBehind("f:AF ", ";", " ;" + ITEMS, "", "AF", "f");
        everyByteBehind("f:<", "", " " + FIGURES, "", "", "");
        everyByteBehind("f:> ", "", " " + FIGURES, "", "", "");
        everyByteBehind("f:<1", ";", " ;" + ITEMS + FIGURES, "", "<", "f");
        everyByteBehind("f:>12", ";", " ;" + ITEMS + FIGURES, "", ">", "f");
        everyByteBehind("f:>1<12", ";", " ;" + ITEMS + FIGURES, "", "<>", "f");
        everyByteBehind("f:<1 ", ";", " ;" + ITEMS, "", "<", "f");
        everyByteBehind("f:<123 ", ";", " ;" + ITEMS, "", "<", "f");
        everyByteBehind("f:;", " ", " " + STEPS, "f", "", "");
        everyByteBehind("f:A;s:f; ", " ", " " + STEPS, "fs", "", "");
        everyByteBehind("f:;s:;b:;g:;", " ", " " + STEPS, STEPS, "", "");
    }

    /**
     * Each of the 256 bytes behind a beginning: those that end a law, those that can stand, and of these the ones that
     * have the faults 3, 4 and 5.
     */
    private static void everyByteBehind(String beginning, String ends, String stands, String three, String four,
            String five) {
        int at = beginning.length();
        for (int b = 0; b < 256; b++) {
            String text = beginning + (char) b;
            if (stands.indexOf(b) < 0) {
                fault(text, 1, at);
            } else if (three.indexOf(b) >= 0) {
                fault(text, 3, at);
            } else if (four.indexOf(b) >= 0) {
                fault(text, 4, at);
            } else if (five.indexOf(b) >= 0) {
                fault(text, 5, at);
            } else if (ends.indexOf(b) >= 0) {
                fault(text, 0, NONE);
            } else {
                fault(text, 1, at + 1);
            }
        }
    }

    /** A text's fault (0: none) and its byte. */
    private static void fault(String text, int number, int at) {
        HourPromised x = new HourPromised();
        due.is("6 law of \"" + text + "\"", Due.tellLaw(x, 0, text), number == 0 ? 0 : -10 - number);
        due.is("7 place of \"" + text + "\"", x.place(), at);
    }

    private static void blanksAnywhereButWithinANumber() {
        String text = "f:A<12s;g:>345!;";
        for (int at = 0; at <= text.length(); at++) {
            String blanks = text.substring(0, at) + "   " + text.substring(at);
            boolean within = at > 0 && at < text.length() && FIGURES.indexOf(text.charAt(at - 1)) >= 0
                    && FIGURES.indexOf(text.charAt(at)) >= 0;
            if (within) {
                fault(blanks, 1, at + 3);
            } else {
                HourPromised x = new HourPromised();
                due.is("T2 blanks anywhere: " + blanks, Due.tellLaw(x, 3, blanks), 0);
                due.is("T2 papers of " + blanks, x.says(3, FETCH, PAPERS), 1);
                due.is("T2 bound of " + blanks, x.says(3, FETCH, AT_MOST), 12);
                due.is("T2 steps of " + blanks, x.says(3, FETCH, AHEAD), 2);
                due.is("T2 other bound of " + blanks, x.says(3, GRAVE, AT_LEAST), 345);
                due.is("T2 never of " + blanks, x.says(3, GRAVE, NEVER), 1);
            }
        }
        // Only the byte 32 is a blank.
        for (char b : new char[] {0, '\t', '\n', '\r', 160, 255}) {
            fault("f:A" + b + ";", 1, 3);
        }
    }

    private static void anyNumberOfItems() {
        fault("f:;", 0, NONE);
        fault("f:;s:;b:;g:;", 0, NONE);
        fault("", 0, NONE);
        fault(" ", 0, NONE);
        HourPromised x = new HourPromised();
        due.is("T2 all items there are", Due.tellLaw(x, 0, "b:ABCDEF<7>3!fsg;"), 0);
        int[] said = {63, 7, 3, 1, 11};
        for (int what = 0; what < said.length; what++) {
            due.is("8 says " + what, x.says(0, FIRE, what), said[what]);
        }
    }

    // ---- what a law says

    private static void everyLetterOfEveryStep() {
        for (int step = 0; step < 4; step++) {
            for (int k = 0; k < ITEMS.length(); k++) {
                char item = ITEMS.charAt(k);
                String number = item == '<' || item == '>' ? "8" : "";
                String text = STEPS.charAt(step) + ":" + item + number + ";";
                HourPromised x = new HourPromised();
                boolean own = STEPS.charAt(step) == item;
                due.is("6 law " + text, Due.tellLaw(x, 2, text), own ? -15 : 0);
                int paper = "ABCDEF".indexOf(item);
                int ahead = own ? -1 : STEPS.indexOf(item);
                int[] said = {paper < 0 ? 0 : 1 << paper, item == '<' ? 8 : NONE, item == '>' ? 8 : NONE,
                    item == '!' ? 1 : 0, ahead < 0 ? 0 : 1 << ahead};
                saysAlone(x, step, said, text);
            }
        }
    }

    /** Of one step of faith 2 a law says so much, and of the others and of the other faiths nothing. */
    private static void saysAlone(HourPromised x, int step, int[] said, String text) {
        int[] nothing = {0, NONE, NONE, 0, 0};
        for (int faith = 0; faith < 4; faith++) {
            for (int other = 0; other < 4; other++) {
                for (int what = 0; what < 5; what++) {
                    int want = faith == 2 && other == step ? said[what] : nothing[what];
                    due.is("8 " + text + " says of " + faith + " " + other, x.says(faith, other, what), want);
                }
            }
        }
    }

    private static void everyNumber() {
        for (int n = 0; n <= 999; n++) {
            String three = "" + n / 100 + n / 10 % 10 + n % 10;
            boundsOf("f:<" + n + ">" + three + ";", n, n);
            boundsOf("f:>" + n + "<" + three + ";", n, n);
        }
        boundsOf("f:<00>05;", 0, 5);
        boundsOf("f:<999>0;", 999, 0);
        boundsOf("f:>1;", NONE, 1);
        boundsOf("f:<1;", 1, NONE);
    }

    private static void boundsOf(String text, int most, int least) {
        HourPromised x = new HourPromised();
        due.is("T2 one to three figures: " + text, Due.tellLaw(x, 0, text), 0);
        due.is("8 at most, " + text, x.says(0, FETCH, AT_MOST), most);
        due.is("8 at least, " + text, x.says(0, FETCH, AT_LEAST), least);
    }

    // ---- faults

    private static void numbersOfFourFigures() {
        fault("f:<999;", 0, NONE);
        fault("f:<1000;", 2, 3);
        fault("f:<0000;", 2, 3);
        fault("f:<0001;", 2, 3);
        fault("f:>  1000;", 2, 5);
        fault("f:>1000", 2, 3);
        fault("f:A>12345;", 2, 4);
        fault("f:<" + "9".repeat(97), 2, 3);
        fault("f:<4294967296;", 2, 3);
        fault("f:<12>1234;", 2, 6);
        fault("f:<123>456;s:<1234;", 2, 14);
        fault("f:<1234?", 2, 3);
        fault("f:<123?", 1, 6);
        fault("f:<123 4;", 1, 7);
        fault("f:<1 2345;", 1, 5);
        fault("f:1234;", 1, 2);
        fault("1234", 1, 0);
    }

    private static void faultsOfRepetition() {
        for (int step = 0; step < 4; step++) {
            char letter = STEPS.charAt(step);
            fault(letter + ":;" + letter + ":;", 3, 3);
            fault(" " + letter + ":; " + letter + ":;", 3, 5);
            fault(letter + ": " + letter + ";", 5, 3);
            fault(letter + ":;" + letter, 3, 3);
            fault(letter + ":;" + letter + "?", 3, 3);
        }
        fault("f:;s:;b:;g:;f:;", 3, 12);
        fault("f:A!;s:A!;b:A!;g:A!;", 0, NONE);
        fault("f:sbg;s:fbg;b:fsg;g:fsb;", 0, NONE);
        for (char item : "ABCDEF!sbg".toCharArray()) {
            fault("f:" + item + item + ";", 4, 3);
            fault("f:" + item + " <1>2 " + item + ";", 4, 9);
        }
        for (char sign : "<>".toCharArray()) {
            fault("f:" + sign + "5" + sign + "5;", 4, 4);
            fault("f:" + sign + "5" + sign + "6;", 4, 4);
            fault("f:" + sign + "5A " + sign + " 6;", 4, 6);
            fault("f:" + sign + "5" + sign + "6666;", 4, 4);
            fault("f:" + sign + "5" + sign, 4, 4);
            fault("f:" + sign + "5;s:" + sign + "5;", 0, NONE);
        }
        fault("f:<5>5;", 0, NONE);
    }

    private static void theLeastFaultOfTheFirstByte() {
        fault("f:f;f:f;", 5, 2);
        fault("f:AAf1234;", 4, 3);
        fault("f:fAA;", 5, 2);
        fault("f:ff;", 5, 2);
        fault("f:<1234AA;", 2, 3);
        fault("f:?<1234", 1, 2);
        fault("f:;f:f;?", 3, 3);
        fault("f:;1234", 1, 3);
        fault("f:A;s:;s:AA;", 3, 7);
    }

    private static void theEndAtTheTextsLength() {
        String[] unended = {"f", "f ", "f:", "f: ", "f:A", "f:A  ", "f:<", "f:< ", "f:<1", "f:<123", "f:<1 ", "f:s",
            "f:!", "f:;s", "f:;s:", "f:;s:<9", "f:A;  g  :  "};
        for (String text : unended) {
            fault(text, 1, text.length());
        }
    }

    private static void aHundredBytes() {
        fault("f:" + " ".repeat(97) + ";", 0, NONE);
        fault(" ".repeat(97) + "f:;", 0, NONE);
        fault(" ".repeat(100), 0, NONE);
        fault(" ".repeat(99) + "f", 1, 100);
        fault(" ".repeat(99) + "?", 1, 99);
        fault("f:" + " ".repeat(98), 1, 100);
        fault("f:" + " ".repeat(97) + "<", 1, 100);
        fault("f:" + " ".repeat(97) + "f", 5, 99);
        fault("f:A" + " ".repeat(96) + "A", 4, 99);
        fault("f:;" + " ".repeat(96) + "f", 3, 99);
        fault("f:" + " ".repeat(94) + "<123", 1, 100);
        fault("f:" + " ".repeat(93) + "<1234", 2, 96);
        fault("f:<" + " ".repeat(94) + "12;", 0, NONE);
        HourPromised x = new HourPromised();
        Due.feedText(x, "f:" + " ".repeat(92) + "<123A;");
        due.is("T2 a law of a hundred bytes", x.count(4), 100);
        due.is("T2 is a law", x.law(0), 0);
        due.is("T2 to its last item", x.says(0, FETCH, PAPERS), 1);
        due.is("T2 with its number", x.says(0, FETCH, AT_MOST), 123);
    }

    /** Faults of all kinds in short texts, with what stands about them. */
    private static void mixedTexts() {
        fault("f", 1, 1);
        fault("f:", 1, 2);
        fault("f: ", 1, 3);
        fault("f:<", 1, 3);
        fault("f:<12", 1, 5);
        fault("f;", 1, 1);
        fault("ff:;", 1, 1);
        fault(":;", 1, 0);
        fault(";", 1, 0);
        fault("A", 1, 0);
        fault("F:;", 1, 0);
        fault("f:;;", 1, 3);
        fault("f:a;", 1, 2);
        fault("f:G;", 1, 2);
        fault("f:@;", 1, 2);
        fault("f:;\t", 1, 3);
        fault("f:1;", 1, 2);
        fault("f:<1 2;", 1, 5);
        fault("f:<12 3456;", 1, 6);
        fault("f:< A;", 1, 4);
        fault("f:<-1;", 1, 3);
        fault("f:<>1;", 1, 3);
        fault("f:A:;", 1, 3);
        fault("f:s:;", 1, 3);
        fault("f:<1234;", 2, 3);
        fault("f:> 0000", 2, 4);
        fault("f:>123456789;", 2, 3);
        fault("f:;f", 3, 3);
        fault("f:;s:; f:;", 3, 7);
        fault("f:AA;", 4, 3);
        fault("f:A B A;", 4, 6);
        fault("f:<1<2;", 4, 4);
        fault("f:<1<2345;", 4, 4);
        fault("f:>1<1>1;", 4, 6);
        fault("f:!!;", 4, 3);
        fault("f:ss;", 4, 3);
        fault("f:f;", 5, 2);
        fault("f:Ff;", 5, 3);
        fault("s:f;g:gA;", 5, 6);
        fault("f:AA?", 4, 3);
        fault("f:?AA", 1, 2);
        fault("g:;b:;s:;f:;", 0, NONE);
        fault("f:A;s:A;", 0, NONE);
        fault("  f  :  <  1  ;  ", 0, NONE);
        fault("f:<1>1A!s;", 0, NONE);
        fault("f:<1A;", 0, NONE);
    }

    /** All texts of up to five bytes of these, held against the document told a second time. */
    private static void everyShortText() {
        String letters = "fs:; A<!1?";
        for (int length = 0; length <= 5; length++) {
            int many = 1;
            for (int k = 0; k < length; k++) {
                many *= letters.length();
            }
            for (int row = 0; row < many; row++) {
                char[] text = new char[length];
                for (int k = 0, left = row; k < length; k++, left /= letters.length()) {
                    text[k] = letters.charAt(left % letters.length());
                }
                int[] told = PlainModel.faultOf(new String(text));
                fault(new String(text), told[0], told[1]);
            }
        }
    }

    // ---- law and place

    private static void faultLeavesTheLawAsItWas() {
        String[] faulty = {"f:!;s:!;b:!;g:!;?", "f:!;s:>1234;", "f:!;f:;", "f:!;s:AA;", "f:!s:s;", "f:!;s:s;", "f:!;s"};
        for (String text : faulty) {
            HourPromised x = new HourPromised();
            Due.tellLaw(x, 1, "f:B<50;");
            x.casus(1, 0, 0, 0);
            x.paper(0, 1, 0);
            x.promise(0, FETCH, 9);
            x.promise(0, SERVICE, 10);
            due.is("6 faulty " + text, Due.tellLaw(x, 1, text) < -10 ? 1 : 0, 1);
            due.is("6 the LAW is as it was", x.says(1, FETCH, PAPERS), 2);
            due.is("6 with its bound", x.says(1, FETCH, AT_MOST), 50);
            due.is("6 not never", x.says(1, FETCH, NEVER), 0);
            due.is("6 nor for another step", x.says(1, SERVICE, NEVER), 0);
            due.is("6 nothing is undone", x.count(2), 2);
            due.is("6 nor counted as undone", x.count(3), 0);
            due.is("6 THE TEXT is empty", x.count(4), 0);
            due.is("6 the next one is read from its own beginning", Due.tellLaw(x, 1, "f:!;"), 1);
            due.is("6 and replaces the whole LAW", x.says(1, FETCH, PAPERS), 0);
        }
    }

    private static void placeOfTheLatest() {
        HourPromised x = new HourPromised();
        due.is("7 NONE, there was no law()", x.place(), NONE);
        x.law(4);
        due.is("7 NONE, there was an UNKNOWN one", x.place(), NONE);
        Due.tellLaw(x, 0, "?");
        due.is("7 the first byte", x.place(), 0);
        Due.tellLaw(x, 3, "f:AA;");
        due.is("7 the latest, of any FAITH", x.place(), 3);
        Due.feedText(x, "f:A;");
        x.law(-1);
        due.is("7 not that of an UNKNOWN", x.place(), 3);
        x.law(0);
        due.is("7 NONE, the latest has none", x.place(), NONE);
        Due.tellLaw(x, 0, "f");
        x.law(0);
        due.is("7 NONE, the latest was empty", x.place(), NONE);
    }
}
