/** Parts 1 and 3 of the terms, and promises 2, 3, 9 and 11 to 16: hours and what is taken in them, at their edges. */
public final class HoursTest {
    private static final int NONE = HourPromised.NONE, NOT = HourPromised.NOT, FULL = HourPromised.FULL;
    private static final int FETCH = 0, SERVICE = 1, FIRE = 2, GRAVE = 3;
    private static final int CARS = 0, FIRES = 1, ROOMS = 2;
    private static final int CHAPELS_TAKEN = 1, FIRES_TAKEN = 2, ROOMS_TAKEN = 3;
    private static final String LETTERS = "fsbg";

    private static final Due due = new Due();

    public static void main(String[] args) {
        aboveTheHourOfDeath();
        tenHoursToADay();
        carsOfAnHour();
        firesOfAnHour();
        roomsOfTheHouse();
        chapelsOfAnHour();
        whatEachStepTakes();
        roomFromFetchOn();
        roomInEachHour();
        roomsMayBeOverfull();
        houseNotBelowWhatIsTaken();
        openNotBelowTheServices();
        chapelsByCases();
        promisedIsHinderedFirst();
        lawSaysNever();
        papersByTheHour();
        boundsInHours();
        stepsAhead();
        stepThatAnotherWants();
        fireOrGrave();
        oneStepAnHour();
        earliestFromAnHourOn();
        sixteenCases();
        due.end("HoursTest");
    }

    /** A house with so many cases of faith 0, dead in hour 0, without bearers. */
    private static HourPromised houseOf(int cases) {
        HourPromised x = new HourPromised();
        for (int c = 0; c < cases; c++) {
            x.casus(0, 0, 0, 0);
        }
        return x;
    }

    private static void aboveTheHourOfDeath() {
        for (int death : new int[] {0, 1, 9, 10, 199, 397, 398, 399}) {
            for (int step = 0; step < 4; step++) {
                HourPromised x = new HourPromised();
                x.casus(0, death, 0, 0);
                due.is("11.2 hour 0, dead in " + death, x.may(0, step, 0), 2);
                due.is("11.2 in the hour of death " + death, x.may(0, step, death), 2);
                due.is("11.2 it is not promised then", x.promise(0, step, death), NOT);
                due.is("13 the first one above it", x.earliest(0, step, 0), death == 399 ? NONE : death + 1);
                due.is("11.2 at the last hour", x.may(0, step, 399), death == 399 ? 2 : 0);
                if (death < 399) {
                    due.is("11.2 one above it", x.promise(0, step, death + 1), 1);
                    due.is("15 its hour", x.promised(0, step, 0), death + 1);
                }
            }
        }
    }

    private static void tenHoursToADay() {
        for (int k = 0; k < 10; k++) {
            HourPromised x = houseOf(1);
            x.open(0, 0);
            x.open(1, 1 << k);
            x.open(2, 0);
            for (int day = 0; day < 40; day++) {
                for (int hour = Math.max(1, 10 * day); hour < 10 * day + 10; hour++) {
                    due.is("11.11 open in hour " + k + " of a day, asked for " + hour, x.may(0, SERVICE, hour),
                            hour % 10 == k ? 0 : 11);
                }
            }
            due.is("13 the first", x.earliest(0, SERVICE, 0), k == 0 ? 10 : k);
            due.is("13 the first from that of the day before on", x.earliest(0, SERVICE, 381 + k), 390 + k);
            due.is("12 on the last day", x.promise(0, SERVICE, 390 + k), 1);
            due.is("15 its only chapel", x.promised(0, SERVICE, 1), 1);
        }
    }

    private static void carsOfAnHour() {
        for (int cars = 0; cars <= 4; cars++) {
            HourPromised x = houseOf(5);
            x.house(CARS, cars);
            for (int c = 0; c < cars; c++) {
                due.is("11.10 a car for case " + c, x.promise(c, GRAVE, 50), 1);
            }
            for (int step = 0; step < 4; step++) {
                due.is("11.10 no car left of " + cars + ", step " + step, x.may(4, step, 50), 10);
                due.is("11.10 one hour earlier", x.may(4, step, 49), cars == 0 ? 10 : 0);
                due.is("11.10 one hour later", x.may(4, step, 51), cars == 0 ? 10 : 0);
            }
            due.is("16 cars taken", x.taken(50, CARS), cars);
            if (cars > 0) {
                x.undo(0, GRAVE);
                due.is("11.10 a car is left again", x.may(4, GRAVE, 50), 0);
            } else {
                due.is("13 never a car", x.earliest(4, FETCH, 0), NONE);
            }
        }
    }

    private static void firesOfAnHour() {
        for (int fires = 0; fires <= 3; fires++) {
            HourPromised x = houseOf(5);
            x.house(CARS, 4);
            x.house(FIRES, fires);
            for (int c = 0; c < fires; c++) {
                due.is("11.11 a fire for case " + c, x.promise(c, FIRE, 399), 1);
            }
            due.is("11.11 none left of " + fires, x.may(4, FIRE, 399), 11);
            due.is("11.11 in another hour", x.may(4, FIRE, 398), fires == 0 ? 11 : 0);
            due.is("11.11 a grave needs none", x.may(4, GRAVE, 399), 0);
            due.is("16 fires taken", x.taken(399, FIRES_TAKEN), fires);
        }
    }

    private static void roomsOfTheHouse() {
        for (int rooms = 0; rooms <= 8; rooms++) {
            HourPromised x = houseOf(9);
            x.house(ROOMS, rooms);
            for (int c = 0; c < rooms; c++) {
                due.is("11.11 a room for case " + c, x.promise(c, FETCH, 10 + c), 1);
            }
            due.is("11.11 none left of " + rooms, x.may(8, FETCH, 20), 11);
            due.is("11.11 nor at the last hour", x.may(8, FETCH, 399), 11);
            due.is("11.11 nor ahead of theirs", x.may(8, FETCH, 1), 11);
            due.is("13 never", x.earliest(8, FETCH, 0), NONE);
            due.is("16 rooms taken", x.taken(399, ROOMS_TAKEN), rooms);
        }
    }

    private static void chapelsOfAnHour() {
        for (int open = 0; open < 8; open++) {
            HourPromised x = houseOf(4);
            x.house(CARS, 4);
            for (int chapel = 0; chapel < 3; chapel++) {
                x.open(chapel, (open >> chapel & 1) == 1 ? 1 << 7 : 1023 - (1 << 7));
            }
            int many = Integer.bitCount(open);
            for (int c = 0; c < many; c++) {
                due.is("11.11 a chapel for case " + c, x.promise(c, SERVICE, 77), 1);
            }
            due.is("11.11 no open one is left of " + open, x.may(3, SERVICE, 77), 11);
            due.is("16 chapels taken", x.taken(77, CHAPELS_TAKEN), many);
            int got = 0;
            for (int c = 0; c < many; c++) {
                got |= 1 << x.promised(c, SERVICE, 1);
            }
            due.is("15 no chapel is taken twice", got, open);
        }
    }

    private static void whatEachStepTakes() {
        int[][] takes = {{1, 0, 0, 1, 0, 1}, {1, 1, 0, 0, 5, 1}, {1, 0, 1, 0, 0, 1}, {1, 0, 0, 0, 5, 1}};
        for (int step = 0; step < 4; step++) {
            for (int hour : new int[] {1, 9, 10, 200, 398, 399}) {
                HourPromised x = new HourPromised();
                for (int i = 0; i < 5; i++) {
                    x.bearer(140);
                }
                x.casus(0, 0, 5, 0);
                x.promise(0, step, hour);
                for (int what = 0; what < 6; what++) {
                    int taken = takes[step][what];
                    due.is("16 step " + step + " at " + hour + " takes " + what, x.taken(hour, what), taken);
                    due.is("16 an hour earlier", x.taken(hour - 1, what), 0);
                    boolean goesOn = step == FETCH && what == ROOMS_TAKEN;
                    due.is("16 an hour later", hour == 399 ? 0 : x.taken(hour + 1, what), goesOn && hour < 399 ? 1 : 0);
                }
                x.undo(0, step);
                for (int what = 0; what < 6; what++) {
                    due.is("16 undone, step " + step + " takes no " + what, x.taken(hour, what), 0);
                    due.is("16 nor later", x.taken(399, what), 0);
                }
            }
        }
    }

    // ---- rooms

    private static void roomFromFetchOn() {
        for (int end = FIRE; end <= GRAVE; end++) {
            roomOf("the hour ahead of its end", 20, end, 25, 20, 24);
            roomOf("one hour only", 20, end, 21, 20, 20);
            roomOf("none: its end is ahead", 20, end, 19, 0, -1);
            roomOf("to the last but one", 20, end, 399, 20, 398);
            roomOf("from the first to the last but one", 1, end, 399, 1, 398);
            roomOf("the last but one", 398, end, 399, 398, 398);
            roomOf("none in the last hour", 399, end, 398, 0, -1);
        }
        HourPromised x = houseOf(1);
        x.promise(0, FETCH, 399);
        due.is("T3 a room in the last hour", x.taken(399, ROOMS_TAKEN), 1);
        due.is("T3 not ahead of it", x.taken(398, ROOMS_TAKEN), 0);
        x = houseOf(1);
        x.promise(0, FETCH, 30);
        x.promise(0, SERVICE, 40);
        due.is("T3 a service does not end it", x.taken(41, ROOMS_TAKEN), 1);
        due.is("T3 to 399, if none is", x.taken(399, ROOMS_TAKEN), 1);
    }

    /** The room of one case is taken from one hour to another, whether it is fetched or ended first. */
    private static void roomOf(String name, int fetch, int end, int hour, int from, int to) {
        for (int order = 0; order < 2; order++) {
            HourPromised x = houseOf(1);
            x.promise(0, order == 0 ? FETCH : end, order == 0 ? fetch : hour);
            x.promise(0, order == 0 ? end : FETCH, order == 0 ? hour : fetch);
            for (int h = 0; h < 400; h++) {
                due.is("T3 " + name + ", hour " + h, x.taken(h, ROOMS_TAKEN), h >= from && h <= to ? 1 : 0);
            }
            x.undo(0, end);
            due.is("T3 " + name + ", no end any more", x.taken(399, ROOMS_TAKEN), 1);
            due.is("T3 " + name + ", from its hour on", x.taken(fetch, ROOMS_TAKEN), 1);
            x.promise(0, end, hour);
            x.undo(0, FETCH);
            due.is("T3 " + name + ", no fetching any more", x.taken(fetch, ROOMS_TAKEN), 0);
            due.is("T3 " + name + ", nor later", x.taken(399, ROOMS_TAKEN), 0);
        }
    }

    private static void roomInEachHour() {
        HourPromised x = houseOf(4);
        x.house(ROOMS, 1);
        x.promise(0, FETCH, 20);
        x.promise(0, GRAVE, 30);
        x.promise(1, FETCH, 399);
        due.is("11.11 up to 399: its last hour is taken", x.may(2, FETCH, 30), 11);
        x.promise(2, FIRE, 399);
        due.is("11.11 its last hour is free", x.may(2, FETCH, 30), 0);
        due.is("11.11 the last hour of another's room", x.may(2, FETCH, 29), 11);
        due.is("11.11 the first one of it", x.may(2, FETCH, 20), 11);
        due.is("11.11 another's room begins later", x.may(2, FETCH, 19), 11);
        due.is("11.11 the last hour of all", x.may(3, FETCH, 399), 11);
        x.promise(3, GRAVE, 21);
        due.is("11.11 its last hour is another's first", x.may(3, FETCH, 10), 11);
        x.undo(3, GRAVE);
        x.promise(3, GRAVE, 20);
        due.is("11.11 its last hour is ahead of another's first", x.may(3, FETCH, 10), 0);
        due.is("11.11 behind its grave it wants none", x.may(3, FETCH, 21), 0);
        due.is("13 the first one", x.earliest(3, FETCH, 0), 1);
        due.is("13 from its grave on", x.earliest(3, FETCH, 20), 21);
    }

    private static void roomsMayBeOverfull() {
        HourPromised x = houseOf(3);
        x.house(ROOMS, 1);
        x.promise(0, FETCH, 10);
        x.promise(0, FIRE, 20);
        x.promise(1, FETCH, 20);
        x.undo(0, FIRE);
        due.is("T3 two in one room", x.taken(20, ROOMS_TAKEN), 2);
        due.is("11.11 no third", x.may(2, FETCH, 300), 11);
        due.is("2 NOT: not even as many as there are", x.house(ROOMS, 1), NOT);
        due.is("2 as many as are taken", x.house(ROOMS, 2), 1);
        due.is("11.11 still no third", x.may(2, FETCH, 300), 11);
        due.is("11 its fire is hindered by no room", x.may(0, FIRE, 399), 0);
    }

    // ---- the house changes

    private static void houseNotBelowWhatIsTaken() {
        int[] steps = {GRAVE, FIRE, FETCH};
        for (int kind = CARS; kind <= ROOMS; kind++) {
            for (int hour : new int[] {1, 200, 399}) {
                HourPromised x = houseOf(3);
                x.house(FIRES, 3);
                for (int c = 0; c < 3; c++) {
                    x.promise(c, steps[kind], hour);
                }
                int was = x.count(8 + kind);
                for (int v = 0; v < 3; v++) {
                    due.is("2 NOT: three of kind " + kind + " are taken in " + hour, x.house(kind, v), NOT);
                }
                due.is("2 it is as it was", x.house(kind, 3), was);
                x.undo(1, steps[kind]);
                due.is("2 two are taken", x.house(kind, 1), NOT);
                due.is("2 as many as are taken", x.house(kind, 2), 3);
                x.undo(0, steps[kind]);
                x.undo(2, steps[kind]);
                due.is("2 none is taken", x.house(kind, 0), 2);
                due.is("17 it has none", x.count(8 + kind), 0);
                due.is("11 none is left", x.may(0, steps[kind], hour), kind == CARS ? 10 : 11);
            }
        }
    }

    private static void openNotBelowTheServices() {
        for (int hour : new int[] {1, 10, 199, 399}) {
            int bit = 1 << hour % 10;
            HourPromised x = houseOf(3);
            for (int c = 0; c < 3; c++) {
                x.promise(c, SERVICE, hour);
            }
            for (int chapel = 0; chapel < 3; chapel++) {
                due.is("3 NOT: all are needed in " + hour, x.open(chapel, 1023 - bit), NOT);
                due.is("3 in that hour of a day only", x.open(chapel, bit), 1023);
                due.is("3 NOT: in another hour only", x.open(chapel, 1023 - bit), NOT);
                due.is("3 NOT: never", x.open(chapel, 0), NOT);
                due.is("3 it is as it was", x.open(chapel, bit), bit);
            }
            x.undo(1, SERVICE);
            due.is("3 one is not needed", x.open(0, 0), bit);
            due.is("3 NOT: the second one is", x.open(1, 0), NOT);
            due.is("15 the first service goes to chapel 1", x.promised(0, SERVICE, 1), 1);
            due.is("15 the other one to chapel 2", x.promised(2, SERVICE, 1), 2);
            due.is("3 NOT: the third one is", x.open(2, 1023 - bit), NOT);
            x.undo(0, SERVICE);
            due.is("3 now one of them may close", x.open(2, 0), bit);
            due.is("3 NOT: the last one", x.open(1, 0), NOT);
            x.undo(2, SERVICE);
            due.is("3 no services", x.open(1, 0), bit);
            due.is("13 none is open", x.earliest(0, SERVICE, 0), NONE);
        }
    }

    private static void chapelsByCases() {
        int[][] orders = {{0, 1, 2}, {0, 2, 1}, {1, 0, 2}, {1, 2, 0}, {2, 0, 1}, {2, 1, 0}};
        for (int[] order : orders) {
            HourPromised x = houseOf(3);
            for (int c : order) {
                x.promise(c, SERVICE, 8);
            }
            for (int c = 0; c < 3; c++) {
                due.is("15 by cases, not as they were promised", x.promised(c, SERVICE, 1), c);
                due.is("15 no chapel for a grave", x.promised(c, GRAVE, 1), NONE);
            }
            x.undo(0, SERVICE);
            x.promise(0, GRAVE, 8);
            due.is("15 the next ones come up", x.promised(1, SERVICE, 1), 0);
            due.is("15 and the last", x.promised(2, SERVICE, 1), 1);
            due.is("15 undone", x.promised(0, SERVICE, 1), NONE);
            due.is("15 a grave in that hour", x.promised(0, GRAVE, 1), NONE);
        }
    }

    // ---- what hinders

    private static void promisedIsHinderedFirst() {
        for (int step = 0; step < 4; step++) {
            HourPromised x = new HourPromised();
            x.casus(0, 5, 0, 0);
            x.promise(0, step, 9);
            for (int hour : new int[] {0, 5, 8, 9, 10, 399}) {
                due.is("11.1 it is promised", x.may(0, step, hour), 1);
            }
            due.is("13 it is promised", x.earliest(0, step, 0), NONE);
        }
    }

    private static void lawSaysNever() {
        for (int step = 0; step < 4; step++) {
            HourPromised x = houseOf(1);
            x.casus(1, 0, 0, 0);
            x.house(CARS, 0);
            Due.tellLaw(x, 0, LETTERS.charAt(step) + ":!A<1>9;");
            due.is("11.3 behind 2", x.may(0, step, 0), 2);
            due.is("11.3 ahead of all others", x.may(0, step, 1), 3);
            due.is("11.3 at the last hour", x.may(0, step, 399), 3);
            due.is("11.3 another step", x.may(0, (step + 1) % 4, 1), 10);
            due.is("11.3 another faith", x.may(1, step, 1), 10);
        }
    }

    private static void papersByTheHour() {
        for (int step = 0; step < 4; step++) {
            for (int paper = 0; paper < 6; paper++) {
                HourPromised x = houseOf(2);
                Due.tellLaw(x, 0, LETTERS.charAt(step) + ":" + (char) ('A' + paper) + ";");
                due.is("11.4 it has not come, at first", x.may(0, step, 399), 4);
                x.paper(0, paper, 30);
                due.is("11.4 by an hour later", x.may(0, step, 29), 4);
                due.is("11.4 by this hour", x.may(0, step, 30), 0);
                due.is("11.4 of another case", x.may(1, step, 30), 4);
                x.paper(0, (paper + 1) % 6, 99);
                due.is("11.4 another paper", x.may(0, step, 30), 0);
                x.paper(0, paper, 399);
                due.is("11.4 told again, later", x.may(0, step, 398), 4);
                due.is("11.4 the last hour", x.may(0, step, 399), 0);
                x.paper(0, paper, 0);
                due.is("11.4 told again, the first hour", x.may(0, step, 1), 0);
                x.paper(0, paper, NONE);
                due.is("11.4 it has not come", x.may(0, step, 399), 4);
            }
        }
        HourPromised x = houseOf(1);
        Due.tellLaw(x, 0, "f:ABCDEF;");
        for (int paper = 0; paper < 6; paper++) {
            due.is("11.4 not all have come", x.may(0, FETCH, 50), 4);
            x.paper(0, paper, 40 + paper);
        }
        due.is("11.4 the last comes later", x.may(0, FETCH, 44), 4);
        due.is("11.4 all have come", x.may(0, FETCH, 45), 0);
    }

    private static void boundsInHours() {
        for (int step = 0; step < 4; step++) {
            HourPromised x = new HourPromised();
            x.casus(0, 100, 0, 0);
            x.casus(0, 390, 0, 0);
            char letter = LETTERS.charAt(step);
            Due.tellLaw(x, 0, letter + ":<9;");
            due.is("11.5 at most so many above", x.may(0, step, 109), 0);
            due.is("11.5 one more", x.may(0, step, 110), 5);
            due.is("11.5 at the last hour", x.may(1, step, 399), 0);
            Due.tellLaw(x, 0, letter + ":>9;");
            due.is("11.5 one less", x.may(0, step, 108), 5);
            due.is("11.5 at least so many above", x.may(0, step, 109), 0);
            due.is("11.5 only the last hour", x.earliest(1, step, 0), 399);
            Due.tellLaw(x, 0, letter + ":>10;");
            due.is("11.5 beyond the last hour", x.earliest(1, step, 0), NONE);
            Due.tellLaw(x, 0, letter + ":<20>20;");
            due.is("11.5 just so many, one less", x.may(0, step, 119), 5);
            due.is("11.5 just so many", x.may(0, step, 120), 0);
            due.is("11.5 just so many, one more", x.may(0, step, 121), 5);
            Due.tellLaw(x, 0, letter + ":<20>21;");
            due.is("11.5 no hour at all", x.earliest(0, step, 0), NONE);
            Due.tellLaw(x, 0, letter + ":<0;");
            due.is("11.5 at most none, and above", x.may(0, step, 101), 5);
            due.is("11.5 behind 2", x.may(0, step, 100), 2);
            Due.tellLaw(x, 0, letter + ":>0;");
            due.is("11.5 at least none", x.may(0, step, 101), 0);
            Due.tellLaw(x, 0, letter + ":>1;");
            due.is("11.5 at least one", x.may(0, step, 101), 0);
            Due.tellLaw(x, 0, letter + ":<999;");
            due.is("11.5 at most more than there are", x.may(0, step, 399), 0);
            Due.tellLaw(x, 0, letter + ":>999;");
            due.is("11.5 at least more than there are", x.may(0, step, 399), 5);
        }
    }

    private static void stepsAhead() {
        for (int step = 0; step < 4; step++) {
            for (int other = 0; other < 4; other++) {
                if (other != step && step + other != FIRE + GRAVE) {
                    HourPromised x = houseOf(1);
                    Due.tellLaw(x, 0, LETTERS.charAt(step) + ":" + LETTERS.charAt(other) + ";");
                    due.is("11.6 it is not promised", x.may(0, step, 399), 6);
                    x.promise(0, other, 50);
                    due.is("11.6 for a later hour", x.may(0, step, 49), 6);
                    due.is("11.6 for this hour, ahead of 9", x.may(0, step, 50), 6);
                    due.is("11.6 for an earlier hour", x.may(0, step, 51), 0);
                    due.is("11.6 for a much earlier one", x.may(0, step, 399), 0);
                    due.is("13 the first behind it", x.earliest(0, step, 0), 51);
                }
            }
        }
        HourPromised x = houseOf(1);
        Due.tellLaw(x, 0, "f:s;s:f;g:fs;");
        due.is("11.6 each wants the other ahead", x.earliest(0, FETCH, 0), NONE);
        due.is("11.6 and the other way round", x.earliest(0, SERVICE, 0), NONE);
        Due.tellLaw(x, 0, "g:fs;");
        x.promise(0, FETCH, 10);
        due.is("11.6 one of two is not promised", x.may(0, GRAVE, 30), 6);
        x.promise(0, SERVICE, 20);
        due.is("11.6 one of two is not earlier", x.may(0, GRAVE, 15), 6);
        due.is("11.6 both are earlier", x.may(0, GRAVE, 21), 0);
        Due.tellLaw(x, 0, "g:b;b:g;");
        due.is("11.6 the grave wants the fire, ahead of 8", x.may(0, GRAVE, 30), 6);
    }

    /** A promise that lacks a step ahead is undone with that step, so 7 never comes to be the first hindrance. */
    private static void stepThatAnotherWants() {
        HourPromised x = houseOf(1);
        Due.tellLaw(x, 0, "s:f;g:s;");
        x.promise(0, FETCH, 10);
        x.promise(0, SERVICE, 20);
        x.promise(0, GRAVE, 30);
        due.is("14 all that hang on it are taken back", x.undo(0, FETCH), 3);
        for (int step = 0; step < 4; step++) {
            due.is("14 none stands", x.promised(0, step, 0), NONE);
        }
        due.is("11.7 nothing is promised that wants it ahead", x.may(0, FETCH, 30), 0);
        due.is("12 it may come later than they were", x.promise(0, FETCH, 40), 1);
    }

    private static void fireOrGrave() {
        for (int first = FIRE; first <= GRAVE; first++) {
            int other = FIRE + GRAVE - first;
            HourPromised x = houseOf(2);
            x.promise(0, first, 50);
            due.is("11.8 earlier", x.may(0, other, 49), 8);
            due.is("11.8 in the same hour, ahead of 9", x.may(0, other, 50), 8);
            due.is("11.8 later", x.may(0, other, 51), 8);
            x.house(CARS, 1);
            due.is("11.8 ahead of 10", x.may(0, other, 50), 8);
            due.is("11.8 another case", x.may(1, other, 51), 0);
            x.undo(0, first);
            due.is("11.8 undone", x.may(0, other, 50), 0);
        }
    }

    private static void oneStepAnHour() {
        for (int first = 0; first < 4; first++) {
            for (int other = 0; other < 4; other++) {
                if (other != first && first + other != FIRE + GRAVE) {
                    HourPromised x = houseOf(2);
                    x.promise(0, first, 50);
                    due.is("11.9 an hour earlier", x.may(0, other, 49), 0);
                    due.is("11.9 in this hour", x.may(0, other, 50), 9);
                    due.is("11.9 an hour later", x.may(0, other, 51), 0);
                    due.is("11.9 another case", x.may(1, other, 50), 0);
                    x.house(CARS, 1);
                    due.is("11.9 ahead of 10", x.may(0, other, 50), 9);
                    due.is("11.10 of another case", x.may(1, other, 50), 10);
                }
            }
        }
    }

    private static void earliestFromAnHourOn() {
        HourPromised x = houseOf(5);
        x.house(CARS, 1);
        x.promise(1, GRAVE, 1);
        x.promise(2, GRAVE, 2);
        x.promise(3, GRAVE, 399);
        due.is("13 the first free one", x.earliest(0, GRAVE, 0), 3);
        due.is("13 from it on", x.earliest(0, GRAVE, 3), 3);
        due.is("13 from the next on", x.earliest(0, GRAVE, 4), 4);
        due.is("13 the last but one", x.earliest(0, GRAVE, 398), 398);
        due.is("13 the last is not free", x.earliest(0, GRAVE, 399), NONE);
        x.undo(3, GRAVE);
        due.is("13 the last is free", x.earliest(0, GRAVE, 399), 399);
        due.is("13 it may be promised so", x.promise(0, GRAVE, 399), 1);
        due.is("13 nothing was promised by asking", x.count(2), 3);
    }

    private static void sixteenCases() {
        HourPromised x = new HourPromised();
        for (int c = 0; c < 16; c++) {
            due.is("9 a refused one takes no number", x.casus(0, 400, 0, 0), HourPromised.OUTSIDE);
            due.is("9 numbers from 0 on", x.casus(c % 4, c, 0, 0), c);
        }
        due.is("9 sixteen at most", x.casus(0, 0, 0, 0), FULL);
        for (int c = 0; c < 16; c++) {
            due.is("9 its own death", x.earliest(c, GRAVE, 0), c + 1);
            due.is("12 each has its steps", x.promise(c, GRAVE, 399 - c), 1);
            due.is("12 and another", x.promise(c, FETCH, 300 + c), c < 4 ? 1 : NOT);
        }
        due.is("17 promises", x.count(2), 20);
    }
}
