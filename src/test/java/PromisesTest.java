/** Each promise of the document by itself: ordinary inputs, edges, and refusals in their order. */
public final class PromisesTest {
    private static final int NONE = HourPromised.NONE;
    private static final int UNKNOWN = HourPromised.UNKNOWN;
    private static final int OUTSIDE = HourPromised.OUTSIDE;
    private static final int NOT = HourPromised.NOT;
    private static final int FULL = HourPromised.FULL;
    private static final int FETCH = 0, SERVICE = 1, FIRE = 2, GRAVE = 3;

    private static final Due due = new Due();

    public static void main(String[] args) {
        newObject();
        house();
        open();
        bearer();
        feed();
        law();
        lawUndoes();
        place();
        says();
        casus();
        paper();
        mayByCase();
        mayByHouse();
        mayRooms();
        mayBearers();
        mayOrder();
        promise();
        earliest();
        undo();
        promisedHourAndChapel();
        promisedBearers();
        taken();
        count();
        plan();
        pay();
        rate();
        days();
        tie();
        settle();
        planned();
        due.end("PromisesTest");
    }

    /** A case without bearers. */
    private static int plainCase(HourPromised x, int faith, int death) {
        return x.casus(faith, death, 0, 0);
    }

    private static void newObject() {
        HourPromised x = new HourPromised();
        int[] counts = {0, 0, 0, 0, 0, 0, 0, 0, 3, 1, 4};
        for (int what = 0; what < counts.length; what++) {
            due.is("1 count " + what, x.count(what), counts[what]);
        }
        for (int faith = 0; faith < 4; faith++) {
            for (int step = 0; step < 4; step++) {
                int[] empty = {0, NONE, NONE, 0, 0};
                for (int what = 0; what < empty.length; what++) {
                    due.is("1 says " + faith + step + what, x.says(faith, step, what), empty[what]);
                }
            }
        }
        due.is("1 place", x.place(), NONE);
        due.is("1 rate", x.rate(0), 0);
        for (int chapel = 0; chapel < 3; chapel++) {
            due.is("1 open " + chapel, x.open(chapel, 1023), 1023);
        }
        for (int hour = 0; hour < 400; hour += 57) {
            for (int what = 0; what < 6; what++) {
                due.is("1 taken " + hour + " " + what, x.taken(hour, what), 0);
            }
        }
    }

    private static void house() {
        HourPromised x = new HourPromised();
        int[] first = {3, 1, 4};
        int[] most = {4, 3, 8};
        for (int what = 0; what < 3; what++) {
            due.is("2 most", x.house(what, most[what]), first[what]);
            due.is("2 above most", x.house(what, most[what] + 1), OUTSIDE);
            due.is("2 below 0", x.house(what, -1), OUTSIDE);
            due.is("2 nothing changed", x.count(8 + what), most[what]);
            due.is("2 none", x.house(what, 0), most[what]);
            due.is("2 back", x.house(what, first[what]), 0);
        }
        due.is("2 what -1", x.house(-1, 1), OUTSIDE);
        due.is("2 what 3", x.house(3, 1), OUTSIDE);
        plainCase(x, 0, 0);
        plainCase(x, 0, 0);
        x.promise(0, FETCH, 399);
        x.promise(1, FIRE, 399);
        due.is("2 fewer cars than taken", x.house(0, 1), NOT);
        due.is("2 as many cars as taken", x.house(0, 2), 3);
        due.is("2 fewer fires", x.house(1, 0), NOT);
        due.is("2 as many fires", x.house(1, 1), 1);
        due.is("2 fewer rooms", x.house(2, 0), NOT);
        due.is("2 as many rooms", x.house(2, 1), 4);
        due.is("2 OUTSIDE ahead of NOT", x.house(0, -1), OUTSIDE);
        due.is("2 refused", x.count(8), 2);
    }

    private static void open() {
        HourPromised x = new HourPromised();
        due.is("3 what it was", x.open(1, 5), 1023);
        due.is("3 what it was then", x.open(1, 1023), 5);
        due.is("3 chapel 3", x.open(3, 5), UNKNOWN);
        due.is("3 chapel -1", x.open(-1, 5), UNKNOWN);
        due.is("3 UNKNOWN ahead of OUTSIDE", x.open(3, -1), UNKNOWN);
        due.is("3 hours -1", x.open(0, -1), OUTSIDE);
        due.is("3 hours 1024", x.open(0, 1024), OUTSIDE);
        plainCase(x, 0, 0);
        plainCase(x, 0, 0);
        x.promise(0, SERVICE, 13);
        x.promise(1, SERVICE, 13);
        due.is("3 one may close", x.open(2, 0), 1023);
        due.is("3 no other may", x.open(0, 0), NOT);
        due.is("3 not at this hour of the day", x.open(0, 1023 - 8), NOT);
        due.is("3 refused", x.promised(0, SERVICE, 1), 0);
        due.is("3 only at this hour", x.open(0, 8), 1023);
        due.is("3 OUTSIDE ahead of NOT", x.open(0, 1 << 10), OUTSIDE);
        x.undo(1, SERVICE);
        due.is("3 after undo", x.open(0, 0), 8);
        due.is("3 the last one", x.open(1, 0), NOT);
    }

    private static void bearer() {
        HourPromised x = new HourPromised();
        due.is("4 too small", x.bearer(139), OUTSIDE);
        due.is("4 too tall", x.bearer(211), OUTSIDE);
        for (int i = 0; i < 12; i++) {
            due.is("4 number", x.bearer(i % 2 == 0 ? 140 : 210), i);
        }
        due.is("4 thirteenth", x.bearer(150), FULL);
        due.is("4 OUTSIDE ahead of FULL", x.bearer(211), OUTSIDE);
        due.is("4 refused", x.count(1), 12);
    }

    private static void feed() {
        HourPromised x = new HourPromised();
        due.is("5 none", x.feed(0, 1), OUTSIDE);
        due.is("5 nine", x.feed(9, 1), OUTSIDE);
        due.is("5 below none", x.feed(-1, 1), OUTSIDE);
        // The highest of the n bytes comes first, and what is above them does not count.
        due.is("5 three of eight", x.feed(3, 0x7878787878663A41L), 3);
        due.is("5 one", x.feed(1, 0x3BL), 4);
        due.is("5 law", x.law(0), 0);
        due.is("5 its paper", x.says(0, FETCH, 0), 1);
        for (int i = 1; i <= 12; i++) {
            due.is("5 blanks", x.feed(8, 0x2020202020202020L), 8 * i);
        }
        due.is("5 above a hundred", x.feed(5, 0x2020202020L), FULL);
        due.is("5 refused", x.count(4), 96);
        due.is("5 a hundred", x.feed(4, 0x20202020L), 100);
        due.is("5 a hundred and one", x.feed(1, 0x20L), FULL);
        due.is("5 OUTSIDE ahead of FULL", x.feed(9, 0x20L), OUTSIDE);
        due.is("5 a hundred blanks", x.law(0), 0);
        due.is("5 negative", x.feed(8, -1L), 8);
        due.is("5 bytes of 255", x.law(0), -11);
        due.is("5 at the first", x.place(), 0);
    }

    private static void law() {
        HourPromised x = new HourPromised();
        due.is("6 a law", Due.tellLaw(x, 3, " f : A  F < 7>5!s ; g:b;"), 0);
        due.is("6 empty then", x.count(4), 0);
        due.is("6 papers", x.says(3, FETCH, 0), 33);
        due.is("6 other faith", x.says(2, FETCH, 0), 0);
        Due.feedText(x, "f:B;");
        due.is("6 faith 4", x.law(4), UNKNOWN);
        due.is("6 faith -1", x.law(-1), UNKNOWN);
        due.is("6 the text stays", x.count(4), 4);
        due.is("6 more of it", Due.tellLaw(x, 3, "?"), -11);
        due.is("6 empty after a fault", x.count(4), 0);
        due.is("6 as it was", x.says(3, FETCH, 0), 33);
        due.is("6 never as it was", x.says(3, FETCH, 3), 1);
        due.is("6 empty law", x.law(3), 0);
        due.is("6 papers of the empty one", x.says(3, FETCH, 0), 0);
        String whole = "f:ABCDEF<999>000!sbg;s:ABCDEF<999>000!fbg;b:ABCDEF<999>000!fsg;g:ABCDEF<999>000!fsb;";
        due.is("6 whole", Due.tellLaw(x, 0, whole), 0);
        due.is("6 all papers", x.says(0, GRAVE, 0), 63);
        due.is("6 all others ahead", x.says(0, GRAVE, 4), 7);
    }

    private static void lawUndoes() {
        HourPromised x = new HourPromised();
        plainCase(x, 1, 10);
        plainCase(x, 2, 10);
        plainCase(x, 1, 10);
        for (int c = 0; c < 3; c++) {
            x.promise(c, FETCH, 12);
            x.promise(c, SERVICE, 20);
            x.promise(c, c == 2 ? FIRE : GRAVE, 30);
        }
        due.is("6 law that all keep", Due.tellLaw(x, 1, "f:<2>2;s:f;g:s;b:f;"), 0);
        due.is("6 a chain in one, a step in another", Due.tellLaw(x, 1, "s:>11;g:s;"), 3);
        due.is("6 its grave", x.promised(0, GRAVE, 0), NONE);
        due.is("6 the fire stays", x.promised(2, FIRE, 0), 30);
        due.is("6 another faith's", x.promised(1, SERVICE, 0), 20);
        due.is("6 fault undoes nothing", Due.tellLaw(x, 1, "f:!;b:!"), -11);
        due.is("6 standing", x.count(2), 6);
        due.is("6 never", Due.tellLaw(x, 1, "f:!;b:!;"), 3);
        due.is("6 standing then", x.count(2), 3);
        due.is("6 paper", Due.tellLaw(x, 2, "s:A;"), 1);
        due.is("6 undone so far", x.count(3), 7);
        due.is("6 a step ahead that is later", Due.tellLaw(x, 2, "f:g;"), 1);
    }

    private static void place() {
        HourPromised x = new HourPromised();
        Due.tellLaw(x, 0, "f:A");
        due.is("7 at the end", x.place(), 3);
        due.is("7 again", x.place(), 3);
        x.law(4);
        due.is("7 UNKNOWN does not count", x.place(), 3);
        Due.feedText(x, "f:");
        due.is("7 feed does not count", x.place(), 3);
        due.is("7 law without fault", Due.tellLaw(x, 0, "A;"), 0);
        due.is("7 none then", x.place(), NONE);
    }

    private static void says() {
        HourPromised x = new HourPromised();
        Due.tellLaw(x, 2, "f:C!;s:<0;b:>999;g:f b s;");
        int[][] all = {{4, NONE, NONE, 1, 0}, {0, 0, NONE, 0, 0}, {0, NONE, 999, 0, 0}, {0, NONE, NONE, 0, 7}};
        for (int step = 0; step < 4; step++) {
            for (int what = 0; what < 5; what++) {
                due.is("8 says " + step + " " + what, x.says(2, step, what), all[step][what]);
            }
        }
        due.is("8 faith -1", x.says(-1, 0, 0), UNKNOWN);
        due.is("8 faith 4", x.says(4, 0, 0), UNKNOWN);
        due.is("8 UNKNOWN ahead of OUTSIDE", x.says(4, 4, 5), UNKNOWN);
        due.is("8 step -1", x.says(0, -1, 0), OUTSIDE);
        due.is("8 step 4", x.says(0, 4, 0), OUTSIDE);
        due.is("8 what -1", x.says(0, 0, -1), OUTSIDE);
        due.is("8 what 5", x.says(0, 0, 5), OUTSIDE);
    }

    private static void casus() {
        HourPromised x = new HourPromised();
        due.is("9 faith -1", x.casus(-1, 0, 0, 0), UNKNOWN);
        due.is("9 UNKNOWN ahead of OUTSIDE", x.casus(4, 400, 7, 71), UNKNOWN);
        due.is("9 death -1", x.casus(0, -1, 0, 0), OUTSIDE);
        due.is("9 death 400", x.casus(0, 400, 0, 0), OUTSIDE);
        due.is("9 needed -1", x.casus(0, 0, -1, 0), OUTSIDE);
        due.is("9 needed 7", x.casus(0, 0, 7, 0), OUTSIDE);
        due.is("9 span -1", x.casus(0, 0, 0, -1), OUTSIDE);
        due.is("9 span 71", x.casus(0, 0, 0, 71), OUTSIDE);
        for (int i = 0; i < 16; i++) {
            due.is("9 number", x.casus(i % 4, i % 2 * 399, i % 2 * 6, i % 2 * 70), i);
        }
        due.is("9 seventeenth", x.casus(0, 0, 0, 0), FULL);
        due.is("9 UNKNOWN ahead of FULL", x.casus(4, 0, 0, 0), UNKNOWN);
        due.is("9 OUTSIDE ahead of FULL", x.casus(0, 0, 0, 71), OUTSIDE);
        due.is("9 cases", x.count(0), 16);
        due.is("9 its death", x.may(0, FETCH, 0), 2);
        due.is("9 above its death", x.may(0, FETCH, 1), 0);
        due.is("9 dead at the last hour", x.earliest(1, FETCH, 0), NONE);
    }

    private static void paper() {
        HourPromised x = new HourPromised();
        due.is("10 no case", x.paper(0, 0, 0), UNKNOWN);
        Due.tellLaw(x, 0, "f:A;s:AF f;g:s;");
        plainCase(x, 0, 0);
        plainCase(x, 0, 0);
        due.is("10 UNKNOWN ahead of OUTSIDE", x.paper(2, 6, 400), UNKNOWN);
        due.is("10 case -1", x.paper(-1, 0, 0), UNKNOWN);
        due.is("10 paper -1", x.paper(0, -1, 0), OUTSIDE);
        due.is("10 paper 6", x.paper(0, 6, 0), OUTSIDE);
        due.is("10 hour -2", x.paper(0, 0, -2), OUTSIDE);
        due.is("10 hour 400", x.paper(0, 0, 400), OUTSIDE);
        due.is("10 come", x.paper(0, 0, 5), 0);
        due.is("10 come at the last hour", x.paper(0, 5, 399), 0);
        due.is("10 by then", x.may(0, FETCH, 4), 4);
        due.is("10 by the hour itself", x.may(0, FETCH, 5), 0);
        x.paper(1, 0, 5);
        x.paper(1, 5, 5);
        for (int c = 0; c < 2; c++) {
            x.paper(c, 5, 0);
            x.promise(c, FETCH, 5);
            x.promise(c, SERVICE, 8);
            x.promise(c, GRAVE, 9);
        }
        due.is("10 six stand", x.count(2), 6);
        due.is("10 a paper that no law wants", x.paper(0, 1, NONE), 0);
        due.is("10 later, but not too late", x.paper(0, 5, 8), 0);
        due.is("10 too late for the service", x.paper(0, 5, 9), 2);
        due.is("10 the fetching stays", x.promised(0, FETCH, 0), 5);
        due.is("10 the other case stays", x.promised(1, SERVICE, 0), 8);
        due.is("10 it has not come", x.paper(1, 0, NONE), 3);
        due.is("10 standing", x.count(2), 1);
        due.is("10 undone", x.count(3), 5);
    }

    private static void mayByCase() {
        HourPromised x = new HourPromised();
        due.is("11 no case", x.may(0, 0, 0), UNKNOWN);
        Due.tellLaw(x, 0, "f:<20;s:B>5f;b:!;g:s;");
        plainCase(x, 0, 10);
        due.is("11 case 1", x.may(1, 4, 400), UNKNOWN);
        due.is("11 case -1", x.may(-1, 0, 0), UNKNOWN);
        due.is("11 step -1", x.may(0, -1, 0), OUTSIDE);
        due.is("11 step 4", x.may(0, 4, 0), OUTSIDE);
        due.is("11 hour -1", x.may(0, 0, -1), OUTSIDE);
        due.is("11 hour 400", x.may(0, 0, 400), OUTSIDE);
        due.is("11 ahead of death", x.may(0, FETCH, 9), 2);
        due.is("11 in the hour of death", x.may(0, FETCH, 10), 2);
        due.is("11 death ahead of never", x.may(0, FIRE, 10), 2);
        due.is("11 never", x.may(0, FIRE, 11), 3);
        due.is("11 paper", x.may(0, SERVICE, 12), 4);
        x.paper(0, 1, 13);
        due.is("11 paper not yet", x.may(0, SERVICE, 12), 4);
        due.is("11 too early", x.may(0, SERVICE, 14), 5);
        due.is("11 early enough, no step ahead", x.may(0, SERVICE, 15), 6);
        due.is("11 at most", x.may(0, FETCH, 30), 0);
        due.is("11 too late", x.may(0, FETCH, 31), 5);
        due.is("11 may changes nothing", x.count(2), 0);
        x.promise(0, FETCH, 20);
        due.is("11 promised", x.may(0, FETCH, 5), 1);
        due.is("11 step ahead in the same hour", x.may(0, SERVICE, 20), 6);
        due.is("11 step ahead is later", x.may(0, SERVICE, 19), 6);
        due.is("11 step ahead is earlier", x.may(0, SERVICE, 21), 0);
        due.is("11 a step ahead of the grave lacks", x.may(0, GRAVE, 40), 6);
        Due.tellLaw(x, 0, "");
        due.is("11 same hour", x.may(0, SERVICE, 20), 9);
        x.promise(0, FIRE, 30);
        due.is("11 grave and fire", x.may(0, GRAVE, 31), 8);
        due.is("11 8 ahead of 9", x.may(0, GRAVE, 30), 8);
        x.undo(0, FIRE);
        x.promise(0, GRAVE, 30);
        due.is("11 fire and grave", x.may(0, FIRE, 31), 8);
        due.is("11 ahead of the fetching, if no law forbids", x.may(0, SERVICE, 11), 0);
    }

    private static void mayByHouse() {
        HourPromised x = new HourPromised();
        for (int i = 0; i < 5; i++) {
            plainCase(x, 0, 0);
        }
        x.promise(0, FIRE, 50);
        due.is("11 no fire left", x.may(1, FIRE, 50), 11);
        due.is("11 fires of another hour", x.may(1, FIRE, 51), 0);
        x.house(1, 2);
        due.is("11 two fires", x.may(1, FIRE, 50), 0);
        x.house(0, 1);
        due.is("11 no car left, ahead of fires", x.may(1, FIRE, 50), 10);
        x.house(0, 4);
        x.open(0, 1 << 5);
        x.open(1, 0);
        x.open(2, 1 << 5 | 1 << 6);
        due.is("11 no open chapel", x.may(1, SERVICE, 57), 11);
        due.is("11 a chapel on each day", x.may(1, SERVICE, 395), 0);
        x.promise(1, SERVICE, 56);
        due.is("11 the chapel is taken", x.may(2, SERVICE, 56), 11);
        x.promise(1, GRAVE, 55);
        x.promise(2, SERVICE, 55);
        x.promise(3, SERVICE, 55);
        due.is("11 both are taken", x.may(4, SERVICE, 55), 11);
        due.is("11 a grave takes none", x.may(4, GRAVE, 55), 0);
        x.promise(4, GRAVE, 55);
        due.is("11 four cars", x.may(0, SERVICE, 55), 10);
        x.undo(4, GRAVE);
        x.house(0, 3);
        due.is("11 no car for any step", x.may(4, GRAVE, 55), 10);
        due.is("11 no car to fetch", x.may(4, FETCH, 55), 10);
    }

    private static void mayRooms() {
        HourPromised x = new HourPromised();
        x.house(2, 1);
        for (int i = 0; i < 4; i++) {
            plainCase(x, 0, 0);
        }
        x.promise(0, FETCH, 20);
        x.promise(0, GRAVE, 30);
        due.is("11 its end is ahead", x.may(1, FETCH, 10), 11);
        x.promise(1, FIRE, 20);
        due.is("11 fetched till the other comes", x.may(1, FETCH, 10), 0);
        due.is("11 fetched after its fire takes no room", x.may(1, FETCH, 25), 0);
        due.is("11 in the last hour of the room", x.may(2, FETCH, 29), 11);
        due.is("11 in the hour of the grave", x.may(2, FETCH, 30), 0);
        x.promise(1, FETCH, 25);
        due.is("11 no room taken by it", x.taken(25, 3), 1);
        x.promise(2, FETCH, 30);
        due.is("11 full to the end", x.may(3, FETCH, 399), 11);
        x.undo(0, GRAVE);
        due.is("11 two in one room now", x.taken(399, 3), 2);
        due.is("11 full", x.may(3, FETCH, 31), 11);
        x.house(2, 3);
        due.is("11 a third room", x.may(3, FETCH, 31), 0);
        x.promise(3, FIRE, 1);
        x.undo(0, FETCH);
        x.undo(2, FETCH);
        x.house(2, 0);
        due.is("11 no rooms, but none is wanted", x.may(3, FETCH, 5), 0);
        x.undo(3, FIRE);
        due.is("11 no rooms", x.may(3, FETCH, 5), 11);
    }

    private static void mayBearers() {
        HourPromised x = new HourPromised();
        x.house(0, 4);
        x.casus(0, 0, 2, 5);
        x.casus(0, 0, 2, 40);
        x.casus(0, 0, 1, 0);
        x.casus(0, 0, 0, 0);
        due.is("11 no bearers", x.may(0, GRAVE, 9), 12);
        due.is("11 none needed", x.may(3, GRAVE, 9), 0);
        due.is("11 fetching needs none", x.may(0, FETCH, 9), 0);
        due.is("11 fire needs none", x.may(0, FIRE, 9), 0);
        x.bearer(150);
        x.bearer(156);
        due.is("11 too unlike", x.may(0, SERVICE, 9), 12);
        due.is("11 like enough for another", x.may(1, SERVICE, 9), 0);
        x.bearer(161);
        due.is("11 the span itself", x.may(0, SERVICE, 9), 0);
        x.promise(1, SERVICE, 9);
        due.is("11 three are not four", x.may(0, GRAVE, 9), 12);
        due.is("11 three are three", x.may(2, GRAVE, 9), 0);
        x.bearer(190);
        due.is("11 the sets of others give way", x.may(0, GRAVE, 9), 0);
        x.promise(0, GRAVE, 9);
        due.is("11 all are taken", x.may(2, GRAVE, 9), 12);
        due.is("11 in another hour", x.may(2, GRAVE, 10), 0);
        due.is("11 none needed in a full hour", x.may(3, SERVICE, 9), 0);
    }

    /** Of several hindrances the first one is told: each is taken away in turn. */
    private static void mayOrder() {
        HourPromised x = new HourPromised();
        x.casus(0, 10, 1, 0);
        plainCase(x, 1, 0);
        plainCase(x, 1, 0);
        x.open(1, 0);
        x.open(2, 0);
        x.house(0, 2);
        x.promise(1, SERVICE, 12);
        x.promise(2, FIRE, 12);
        Due.tellLaw(x, 0, "s:!A>9f;");
        due.is("11 order 2", x.may(0, SERVICE, 10), 2);
        due.is("11 order 3", x.may(0, SERVICE, 12), 3);
        Due.tellLaw(x, 0, "s:A>9f;");
        due.is("11 order 4", x.may(0, SERVICE, 12), 4);
        x.paper(0, 0, 0);
        due.is("11 order 5", x.may(0, SERVICE, 12), 5);
        Due.tellLaw(x, 0, "s:Af;");
        due.is("11 order 6", x.may(0, SERVICE, 12), 6);
        Due.tellLaw(x, 0, "");
        due.is("11 order 10", x.may(0, SERVICE, 12), 10);
        x.house(0, 3);
        due.is("11 no bearer for the grave", x.promise(0, GRAVE, 12), NOT);
        due.is("11 order 11", x.may(0, SERVICE, 12), 11);
        x.open(2, 1023);
        due.is("11 order 12", x.may(0, SERVICE, 12), 12);
        x.bearer(200);
        due.is("11 order 0", x.may(0, SERVICE, 12), 0);
        x.promise(0, SERVICE, 12);
        due.is("11 order 1", x.may(0, SERVICE, 12), 1);
        due.is("11 1 ahead of 2", x.may(0, SERVICE, 10), 1);
        due.is("11 9 ahead of 10", x.may(0, GRAVE, 12), 9);
    }

    private static void promise() {
        HourPromised x = new HourPromised();
        due.is("12 no case", x.promise(0, 4, 400), UNKNOWN);
        plainCase(x, 0, 10);
        due.is("12 case -1", x.promise(-1, 0, 20), UNKNOWN);
        due.is("12 step -1", x.promise(0, -1, 20), OUTSIDE);
        due.is("12 step 4", x.promise(0, 4, 20), OUTSIDE);
        due.is("12 hour -1", x.promise(0, 0, -1), OUTSIDE);
        due.is("12 hour 400", x.promise(0, 0, 400), OUTSIDE);
        due.is("12 it may not", x.promise(0, 0, 10), NOT);
        due.is("12 refused", x.count(2), 0);
        due.is("12 it may", x.promise(0, 0, 399), 1);
        due.is("12 its hour", x.promised(0, 0, 0), 399);
        due.is("12 it is promised", x.promise(0, 0, 398), NOT);
        due.is("12 its hour still", x.promised(0, 0, 0), 399);
        due.is("12 standing", x.count(2), 1);
    }

    private static void earliest() {
        HourPromised x = new HourPromised();
        due.is("13 no case", x.earliest(0, 4, 400), UNKNOWN);
        plainCase(x, 0, 10);
        plainCase(x, 0, 390);
        due.is("13 step -1", x.earliest(0, -1, 0), OUTSIDE);
        due.is("13 step 4", x.earliest(0, 4, 0), OUTSIDE);
        due.is("13 from -1", x.earliest(0, 0, -1), OUTSIDE);
        due.is("13 from 400", x.earliest(0, 0, 400), OUTSIDE);
        due.is("13 above death", x.earliest(0, FETCH, 0), 11);
        due.is("13 from that hour", x.earliest(0, FETCH, 11), 11);
        due.is("13 from the last", x.earliest(0, FETCH, 399), 399);
        due.is("13 changes nothing", x.count(2), 0);
        Due.tellLaw(x, 0, "s:Bf;b:>10;g:!;");
        due.is("13 no paper", x.earliest(0, SERVICE, 0), NONE);
        x.paper(0, 1, 30);
        due.is("13 no step ahead", x.earliest(0, SERVICE, 0), NONE);
        x.promise(0, FETCH, 35);
        due.is("13 behind the step ahead", x.earliest(0, SERVICE, 0), 36);
        due.is("13 promised", x.earliest(0, FETCH, 0), NONE);
        due.is("13 at least", x.earliest(0, FIRE, 0), 20);
        due.is("13 beyond the hours", x.earliest(1, FIRE, 0), NONE);
        due.is("13 never", x.earliest(0, GRAVE, 0), NONE);
        x.open(0, 1 << 4);
        x.open(1, 0);
        x.open(2, 0);
        due.is("13 when a chapel opens", x.earliest(0, SERVICE, 0), 44);
    }

    private static void undo() {
        HourPromised x = new HourPromised();
        due.is("14 no case", x.undo(0, 4), UNKNOWN);
        Due.tellLaw(x, 0, "s:f;g:s;");
        plainCase(x, 0, 0);
        plainCase(x, 0, 0);
        due.is("14 case -1", x.undo(-1, 0), UNKNOWN);
        due.is("14 step -1", x.undo(0, -1), OUTSIDE);
        due.is("14 step 4", x.undo(0, 4), OUTSIDE);
        due.is("14 not promised", x.undo(0, 0), NOT);
        for (int c = 0; c < 2; c++) {
            x.promise(c, FETCH, 5);
            x.promise(c, SERVICE, 7);
            x.promise(c, GRAVE, 9);
        }
        due.is("14 the last of the chain", x.undo(0, GRAVE), 1);
        due.is("14 its room goes on", x.taken(399, 3), 1);
        due.is("14 the whole chain", x.undo(1, FETCH), 3);
        due.is("14 the other case stays", x.count(2), 2);
        due.is("14 the middle", x.undo(0, SERVICE), 1);
        due.is("14 again", x.undo(0, SERVICE), NOT);
        due.is("14 undone so far", x.count(3), 5);
        due.is("14 no room", x.taken(5, 3), 1);
        due.is("14 it may be promised again", x.promise(1, FETCH, 5), 1);
    }

    private static void promisedHourAndChapel() {
        HourPromised x = new HourPromised();
        due.is("15 no case", x.promised(0, 4, 3), UNKNOWN);
        for (int i = 0; i < 3; i++) {
            plainCase(x, 0, 0);
        }
        due.is("15 case -1", x.promised(-1, 0, 0), UNKNOWN);
        due.is("15 step -1", x.promised(0, -1, 0), OUTSIDE);
        due.is("15 step 4", x.promised(0, 4, 0), OUTSIDE);
        due.is("15 what -1", x.promised(0, 0, -1), OUTSIDE);
        due.is("15 what 3", x.promised(0, 0, 3), OUTSIDE);
        due.is("15 no hour", x.promised(0, SERVICE, 0), NONE);
        due.is("15 no chapel", x.promised(0, SERVICE, 1), NONE);
        due.is("15 no bearers", x.promised(0, SERVICE, 2), 0);
        x.promise(2, SERVICE, 31);
        due.is("15 the least chapel", x.promised(2, SERVICE, 1), 0);
        x.promise(0, SERVICE, 31);
        due.is("15 by cases", x.promised(0, SERVICE, 1), 0);
        due.is("15 the next", x.promised(2, SERVICE, 1), 1);
        x.promise(1, SERVICE, 32);
        due.is("15 of another hour", x.promised(1, SERVICE, 1), 0);
        x.open(0, 1 << 2);
        due.is("15 one that is open", x.promised(0, SERVICE, 1), 1);
        due.is("15 the next of these", x.promised(2, SERVICE, 1), 2);
        due.is("15 its hour of the day", x.promised(1, SERVICE, 1), 0);
        x.promise(0, GRAVE, 40);
        due.is("15 a grave has no chapel", x.promised(0, GRAVE, 1), NONE);
        due.is("15 its hour", x.promised(0, GRAVE, 0), 40);
        x.undo(0, SERVICE);
        due.is("15 hour undone", x.promised(0, SERVICE, 0), NONE);
        due.is("15 the first again", x.promised(2, SERVICE, 1), 1);
    }

    private static void promisedBearers() {
        HourPromised x = new HourPromised();
        x.house(0, 4);
        int[] heights = {180, 150, 181, 152, 185, 151};
        for (int height : heights) {
            x.bearer(height);
        }
        x.casus(0, 0, 2, 70);
        x.casus(0, 0, 2, 2);
        x.casus(0, 0, 2, 2);
        x.promise(2, SERVICE, 9);
        due.is("15 the first row", x.promised(2, SERVICE, 2), 1 | 4);
        x.promise(1, GRAVE, 9);
        due.is("15 by cases", x.promised(1, GRAVE, 2), 1 | 4);
        due.is("15 the next row", x.promised(2, SERVICE, 2), 2 | 8);
        x.promise(0, GRAVE, 9);
        due.is("15 the first that leaves sets", x.promised(0, GRAVE, 2), 2 | 16);
        due.is("15 the second likewise", x.promised(1, GRAVE, 2), 1 | 4);
        due.is("15 the third likewise", x.promised(2, SERVICE, 2), 8 | 32);
        x.bearer(183);
        due.is("15 a new bearer lets them change", x.promised(0, GRAVE, 2), 1 | 2);
        due.is("15 and the second", x.promised(1, GRAVE, 2), 4 | 64);
        due.is("15 and the third", x.promised(2, SERVICE, 2), 8 | 32);
        x.undo(1, GRAVE);
        due.is("15 undone", x.promised(1, GRAVE, 2), 0);
        due.is("15 the third, without it", x.promised(2, SERVICE, 2), 4 | 64);
        x.promise(0, FETCH, 12);
        due.is("15 fetching has none", x.promised(0, FETCH, 2), 0);
        x.promise(1, FIRE, 9);
        due.is("15 fire has none", x.promised(1, FIRE, 2), 0);
    }

    private static void taken() {
        HourPromised x = new HourPromised();
        x.house(0, 4);
        for (int i = 0; i < 6; i++) {
            x.bearer(170);
        }
        x.casus(0, 0, 3, 0);
        x.casus(0, 0, 2, 0);
        x.casus(0, 0, 6, 0);
        x.casus(0, 0, 5, 0);
        x.promise(0, SERVICE, 60);
        x.promise(1, GRAVE, 60);
        x.promise(2, FIRE, 60);
        x.promise(3, FETCH, 60);
        x.promise(2, FETCH, 58);
        int[] due60 = {4, 1, 1, 1, 5, 4};
        int[] due59 = {0, 0, 0, 1, 0, 0};
        int[] due57 = {0, 0, 0, 0, 0, 0};
        for (int what = 0; what < 6; what++) {
            due.is("16 taken 60 " + what, x.taken(60, what), due60[what]);
            due.is("16 taken 59 " + what, x.taken(59, what), due59[what]);
            due.is("16 taken 57 " + what, x.taken(57, what), due57[what]);
        }
        due.is("16 to the last hour", x.taken(399, 3), 1);
        due.is("16 hour -1", x.taken(-1, 0), OUTSIDE);
        due.is("16 hour 400", x.taken(400, 0), OUTSIDE);
        due.is("16 what -1", x.taken(0, -1), OUTSIDE);
        due.is("16 what 6", x.taken(0, 6), OUTSIDE);
    }

    private static void count() {
        HourPromised x = new HourPromised();
        due.is("17 what -1", x.count(-1), OUTSIDE);
        due.is("17 what 11", x.count(11), OUTSIDE);
        x.casus(0, 0, 0, 0);
        x.casus(0, 0, 0, 0);
        x.bearer(150);
        x.promise(0, FETCH, 1);
        x.promise(0, SERVICE, 2);
        x.promise(1, FIRE, 2);
        x.undo(0, SERVICE);
        x.plan(7);
        x.plan(8);
        x.plan(9);
        x.pay(0, 11);
        x.pay(2, 20);
        x.tie(0, 1);
        x.settle(1);
        x.house(0, 4);
        x.house(1, 3);
        x.house(2, 8);
        Due.feedText(x, "f:AB;");
        int[] counts = {2, 1, 2, 1, 5, 3, 24, 7, 4, 3, 8};
        for (int what = 0; what < counts.length; what++) {
            due.is("17 count " + what, x.count(what), counts[what]);
        }
    }

    private static void plan() {
        HourPromised x = new HourPromised();
        due.is("18 price -1", x.plan(-1), OUTSIDE);
        due.is("18 price above", x.plan(1000001), OUTSIDE);
        for (int i = 0; i < 16; i++) {
            due.is("18 number", x.plan(i % 2 * 1000000), i);
        }
        due.is("18 seventeenth", x.plan(1), FULL);
        due.is("18 OUTSIDE ahead of FULL", x.plan(-1), OUTSIDE);
        due.is("18 plans", x.count(5), 16);
        due.is("18 nothing in trust", x.planned(15, 1), 0);
    }

    private static void pay() {
        HourPromised x = new HourPromised();
        due.is("19 no plan", x.pay(0, 0), UNKNOWN);
        x.plan(5);
        due.is("19 plan -1", x.pay(-1, 1), UNKNOWN);
        due.is("19 sum 0", x.pay(0, 0), OUTSIDE);
        due.is("19 sum above", x.pay(0, 1000001), OUTSIDE);
        for (int i = 1; i <= 99; i++) {
            due.is("19 paid in", x.pay(0, 1000000), i * 1000000);
        }
        due.is("19 one below", x.pay(0, 999999), 99999999);
        due.is("19 above the most", x.pay(0, 2), NOT);
        due.is("19 refused", x.planned(0, 1), 99999999);
        due.is("19 the most", x.pay(0, 1), 100000000);
        due.is("19 full", x.pay(0, 1), NOT);
        due.is("19 OUTSIDE ahead of NOT", x.pay(0, 0), OUTSIDE);
    }

    private static void rate() {
        HourPromised x = new HourPromised();
        due.is("20 at first", x.rate(100), 0);
        due.is("20 then", x.rate(3), 100);
        due.is("20 below", x.rate(-1), OUTSIDE);
        due.is("20 above", x.rate(101), OUTSIDE);
        due.is("20 refused", x.rate(0), 3);
    }

    private static void days() {
        HourPromised x = new HourPromised();
        due.is("21 no plans", x.days(400), 0);
        x.plan(0);
        x.plan(0);
        x.pay(0, 10099);
        x.pay(1, 199);
        due.is("21 below", x.days(-1), OUTSIDE);
        due.is("21 above", x.days(401), OUTSIDE);
        due.is("21 rate 0", x.days(400), 10298);
        x.rate(50);
        due.is("21 no day", x.days(0), 10298);
        // 10099 grows by 50, 199 by nothing: each plan by itself, and cut.
        due.is("21 one day", x.days(1), 10348);
        due.is("21 each by itself", x.planned(0, 1), 10149);
        due.is("21 the small one", x.planned(1, 1), 199);
        due.is("21 two days", x.days(2), 10149 + 50 + 50 + 199);
        for (int i = 0; i < 98; i++) {
            x.pay(0, 1000000);
        }
        due.is("21 much", x.planned(0, 1), 98010249);
        x.rate(100);
        due.is("21 a day of much", x.days(1), 98010249 + 980102 + 199 + 1);
        due.is("21 another", x.days(1), 98990351 + 989903 + 200 + 2);
        due.is("21 not above the most", x.days(1), 100000000 + 202 + 2);
        due.is("21 still", x.days(1), 100000000 + 204 + 2);
    }

    private static void tie() {
        HourPromised x = new HourPromised();
        due.is("22 nothing", x.tie(0, 0), UNKNOWN);
        x.plan(1);
        x.plan(2);
        due.is("22 no case", x.tie(0, 0), UNKNOWN);
        plainCase(x, 0, 0);
        plainCase(x, 0, 0);
        due.is("22 plan 2", x.tie(2, 0), UNKNOWN);
        due.is("22 plan -1", x.tie(-1, 0), UNKNOWN);
        due.is("22 case -1", x.tie(0, -1), UNKNOWN);
        due.is("22 tied", x.tie(0, 1), 1);
        due.is("22 its case", x.planned(0, 2), 1);
        due.is("22 the plan is tied", x.tie(0, 0), NOT);
        due.is("22 the case is tied", x.tie(1, 1), NOT);
        due.is("22 UNKNOWN ahead of NOT", x.tie(0, 2), UNKNOWN);
        due.is("22 refused", x.planned(1, 2), NONE);
        due.is("22 the others", x.tie(1, 0), 1);
        x.pay(0, 1);
        x.promise(1, FIRE, 5);
        due.is("22 paid", x.settle(1), 1);
        x.undo(1, FIRE);
        plainCase(x, 0, 0);
        due.is("22 it has paid", x.tie(0, 2), NOT);
    }

    private static void settle() {
        HourPromised x = new HourPromised();
        due.is("23 no case", x.settle(0), UNKNOWN);
        for (int i = 0; i < 4; i++) {
            plainCase(x, 0, 0);
        }
        due.is("23 case -1", x.settle(-1), UNKNOWN);
        x.promise(0, FETCH, 3);
        x.promise(0, SERVICE, 4);
        due.is("23 neither is promised", x.settle(0), NOT);
        x.promise(0, GRAVE, 9);
        due.is("23 no plan", x.settle(0), 0);
        due.is("23 it is paid", x.settle(0), NOT);
        x.plan(300);
        x.pay(0, 299);
        x.tie(0, 1);
        due.is("23 not yet", x.settle(1), NOT);
        x.promise(1, FIRE, 9);
        due.is("23 the trust is less", x.settle(1), 299);
        due.is("23 trust", x.planned(0, 1), 0);
        x.pay(0, 50);
        x.undo(1, FIRE);
        x.promise(1, GRAVE, 10);
        due.is("23 once", x.settle(1), NOT);
        x.plan(300);
        x.pay(1, 301);
        x.tie(1, 2);
        x.promise(2, GRAVE, 10);
        due.is("23 the price is less", x.settle(2), 300);
        due.is("23 what is left stays", x.planned(1, 1), 1);
        due.is("23 paid out so far", x.count(7), 599);
        due.is("23 trust of all", x.count(6), 51);
        x.promise(3, FIRE, 11);
        x.undo(3, FIRE);
        due.is("23 no longer promised", x.settle(3), NOT);
    }

    private static void planned() {
        HourPromised x = new HourPromised();
        due.is("24 no plan", x.planned(0, 4), UNKNOWN);
        x.plan(40);
        due.is("24 plan -1", x.planned(-1, 0), UNKNOWN);
        due.is("24 what -1", x.planned(0, -1), OUTSIDE);
        due.is("24 what 4", x.planned(0, 4), OUTSIDE);
        int[] fresh = {40, 0, NONE, 0};
        for (int what = 0; what < 4; what++) {
            due.is("24 fresh " + what, x.planned(0, what), fresh[what]);
        }
        plainCase(x, 0, 0);
        plainCase(x, 0, 0);
        x.pay(0, 100);
        x.tie(0, 1);
        x.promise(1, FIRE, 1);
        x.settle(1);
        int[] paid = {40, 60, 1, 40};
        for (int what = 0; what < 4; what++) {
            due.is("24 paid " + what, x.planned(0, what), paid[what]);
        }
    }
}
