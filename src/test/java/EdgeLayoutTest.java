/** The edges of THE LAYOUT: what keeps two STALLS apart, what a LINE bears, which of several. */
public final class EdgeLayoutTest {
    private static final Due due = new Due();
    private static final int NOTHING = NightStalls.NONE;

    public static void main(String[] args) {
        beside();
        papers();
        noStalls();
        noTwoTheSame();
        moreStallsThanPlaces();
        asManyAsMayBe();
        lanes();
        apart();
        apartOfOtherDishes();
        apartOfOneWithoutPaper();
        apartBeyondTheStreet();
        smellsThatClash();
        smellWithItself();
        smellsOverALane();
        withinTheLimit();
        eachLineForItself();
        limitZero();
        limitNinetyNine();
        oneAboveTheLimitAlone();
        greatestRent();
        greatestRentInTheMiddle();
        rentAheadOfMoreStalls();
        mostStalls();
        rentOfNothing();
        lesserPlace();
        nothingBehindAll();
        firstUnlikeStall();
        allRulesAtOnce();
        layoutAtAnyTime();
        worthIsOfTheLayout();
        openStandsSo();
        due.end();
    }

    private static NightStalls streetOf(int... rents) {
        NightStalls x = new NightStalls();
        x.street(rents.length);
        for (int place = 0; place < rents.length; place++) {
            x.place(place, 0, rents[place]);
        }
        return x;
    }

    /** A street of n PLACES on which all but two are LANES. */
    private static NightStalls onlyTwo(int n, int a, int b) {
        NightStalls x = new NightStalls();
        x.street(n);
        for (int place = 0; place < n; place++) {
            if (place != a && place != b) {
                x.place(place, 2, 1);
            }
        }
        return x;
    }

    private static void laid(NightStalls x, int night, int worth, int... places) {
        due.is("worth(" + night + ")", x.worth(night), worth);
        for (int stall = 0; stall < places.length; stall++) {
            due.is("layout(" + night + ", " + stall + ")", x.layout(night, stall), places[stall]);
        }
    }

    private static void beside() {
        due.says("two are BESIDE one another if their numbers are one apart.");
        for (int n = 2; n <= 8; n++) {
            for (int a = 0; a < n; a++) {
                for (int b = a + 1; b < n; b++) {
                    NightStalls x = onlyTwo(n, a, b);
                    x.clash(0, 1, true);
                    x.stall(0, 0, 0, 1, 1, 0);
                    x.stall(1, 1, 0, 1, 1, 0);
                    laid(x, 0, 0, a, b - a == 1 ? NOTHING : b);
                }
            }
        }
        NightStalls ends = onlyTwo(8, 0, 7);
        ends.clash(3, 3, true);
        ends.stall(0, 3, 0, 1, 1, 0);
        ends.stall(1, 3, 0, 1, 1, 0);
        laid(ends, 0, 0, 0, 7);
    }

    private static void papers() {
        due.says("a PAPER that holds till a NIGHT (0 to 99, with it).");
        int[] tills = {0, 1, 50, 98, 99};
        for (int till : tills) {
            NightStalls x = streetOf(7);
            x.stall(0, 0, 0, 1, 1, till);
            laid(x, 0, 7, 0);
            laid(x, till, 7, 0);
            if (till < 99) {
                laid(x, till + 1, 0, NOTHING);
                laid(x, 99, 0, NOTHING);
            }
            due.is("open on the last NIGHT", x.open(till), 1);
            x.shut();
            if (till < 99) {
                due.is("open on the NIGHT after it", x.open(till + 1), 0);
            }
        }
    }

    private static void noStalls() {
        due.says("A LAYOUT for a NIGHT gives STALLS whose PAPERS hold then a PLACE each, "
                + "or nothing");
        NightStalls x = streetOf(9, 9, 9);
        laid(x, 0, 0);
        due.is("open", x.open(0), 0);
        x.shut();
        x.stall(0, 0, 0, 1, 1, 4);
        x.stall(1, 0, 0, 1, 1, 4);
        laid(x, 4, 18, 0, 1);
        laid(x, 5, 0, NOTHING, NOTHING);
    }

    private static void noTwoTheSame() {
        due.says("no two the same");
        NightStalls x = streetOf(5);
        x.rule(0, 0);
        x.stall(0, 0, 0, 1, 1, 0);
        laid(x, 0, 5, 0);
        x.stall(1, 0, 0, 1, 1, 0);
        laid(x, 0, 5, 0, NOTHING);
        NightStalls y = streetOf(5);
        y.rule(0, 0);
        y.stall(2, 0, 0, 1, 1, 0);
        y.stall(2, 0, 0, 1, 1, 0);
        laid(y, 0, 5, 0, NOTHING);
    }

    private static void moreStallsThanPlaces() {
        due.says("a PLACE each, or nothing: no two the same");
        for (int n = 1; n <= 8; n++) {
            NightStalls x = new NightStalls();
            x.street(n);
            for (int stall = 0; stall < 5; stall++) {
                x.stall(stall, 0, 0, 1, 1, 0);
            }
            for (int stall = 0; stall < 5; stall++) {
                due.is("layout of " + stall + " on " + n, x.layout(0, stall),
                        stall < n ? stall : NOTHING);
            }
            due.is("open", x.open(0), Math.min(n, 5));
        }
    }

    private static void asManyAsMayBe() {
        due.says("`int worth(int night)`: The sum of RENTS of THE LAYOUT for a NIGHT.");
        NightStalls x = streetOf(99, 99, 99, 99, 99, 99, 99, 99);
        for (int stall = 0; stall < 5; stall++) {
            x.stall(stall, 0, 6, 1, 1, 99);
        }
        laid(x, 99, 495, 0, 1, 2, 3, 4);
        NightStalls y = streetOf(0, 0, 0, 1, 2, 3, 4, 5);
        for (int stall = 0; stall < 5; stall++) {
            y.stall(stall, 0, 0, 1, 1, 99);
        }
        laid(y, 99, 15, 3, 4, 5, 6, 7);
    }

    private static void lanes() {
        due.says("none a LANE");
        for (int lane = 0; lane < 8; lane++) {
            NightStalls x = streetOf(1, 1, 1, 1, 1, 1, 1, 1);
            x.place(lane, 0, 99);
            x.stall(0, 0, 0, 1, 1, 0);
            laid(x, 0, 99, lane);
            x.place(lane, 2, 1);
            laid(x, 0, 1, lane == 0 ? 1 : 0);
            x.place(lane, 2, 0);
            laid(x, 0, 99, lane);
        }
        NightStalls all = streetOf(9, 9);
        all.place(0, 2, 1);
        all.place(1, 2, 1);
        all.stall(0, 0, 0, 1, 1, 0);
        laid(all, 0, 0, NOTHING);
        due.is("open", all.open(0), 0);
    }

    private static void apart() {
        due.says("STALLS of one DISH on PLACES whose numbers are more than APART "
                + "(0 to 3; 1 at first) apart");
        for (int a = 0; a < 8; a++) {
            for (int b = a + 1; b < 8; b++) {
                NightStalls x = onlyTwo(8, a, b);
                x.stall(4, 0, 0, 1, 1, 0);
                x.stall(4, 1, 0, 1, 1, 0);
                laid(x, 0, 0, a, b - a > 1 ? b : NOTHING);
                for (int apart = 0; apart <= 3; apart++) {
                    x.rule(0, apart);
                    laid(x, 0, 0, a, b - a > apart ? b : NOTHING);
                }
            }
        }
    }

    private static void apartOfOtherDishes() {
        due.says("STALLS of one DISH on PLACES");
        NightStalls x = streetOf(9, 9, 9, 9, 9);
        x.rule(0, 3);
        for (int dish = 0; dish < 5; dish++) {
            x.stall(dish, 0, 0, 1, 1, 0);
        }
        laid(x, 0, 45, 0, 1, 2, 3, 4);
        x.change(4, 0, 0);
        laid(x, 0, 45, 0, 1, 2, 3, 4);
        x.change(4, 0, 1);
        laid(x, 0, 45, 1, 0, 2, 3, 4);
        x.change(3, 0, 1);
        laid(x, 0, 36, 1, 0, 2, 4, NOTHING);
    }

    private static void apartOfOneWithoutPaper() {
        due.says("gives STALLS whose PAPERS hold then a PLACE each");
        NightStalls x = streetOf(9, 8);
        x.clash(0, 0, true);
        x.stall(0, 0, 30, 1, 1, 4);
        x.stall(0, 0, 30, 1, 1, 9);
        laid(x, 4, 9, 0, NOTHING);
        laid(x, 5, 9, NOTHING, 0);
        laid(x, 9, 9, NOTHING, 0);
        laid(x, 10, 0, NOTHING, NOTHING);
    }

    private static void apartBeyondTheStreet() {
        due.says("more than APART (0 to 3; 1 at first) apart");
        NightStalls x = streetOf(9, 1, 1, 8);
        x.stall(0, 0, 0, 1, 1, 0);
        x.stall(0, 0, 0, 1, 1, 0);
        x.rule(0, 3);
        laid(x, 0, 9, 0, NOTHING);
        x.rule(0, 2);
        laid(x, 0, 17, 0, 3);
        NightStalls three = streetOf(9, 0, 0, 0, 8, 0, 0, 7);
        three.rule(0, 3);
        for (int stall = 0; stall < 3; stall++) {
            three.stall(0, 0, 0, 1, 1, 0);
        }
        laid(three, 0, 17, 0, 4, NOTHING);
        three.rule(0, 2);
        laid(three, 0, 24, 0, 4, 7);
    }

    private static void smellsThatClash() {
        due.says("no two BESIDE one another whose SMELLS CLASH");
        for (int smell = 0; smell <= 3; smell++) {
            for (int other = 0; other <= 3; other++) {
                NightStalls x = streetOf(9, 8);
                x.stall(0, smell, 0, 1, 1, 0);
                x.stall(1, other, 0, 1, 1, 0);
                laid(x, 0, 17, 0, 1);
                x.clash(smell, other, true);
                laid(x, 0, 9, 0, NOTHING);
                x.clash(other, smell, false);
                laid(x, 0, 17, 0, 1);
                x.clash(other, smell, true);
                laid(x, 0, 9, 0, NOTHING);
                x.street(3);
                laid(x, 0, 0, 0, 2);
            }
        }
    }

    private static void smellWithItself() {
        due.says("two (or one with itself) may CLASH.");
        NightStalls x = streetOf(9, 8);
        x.stall(0, 2, 0, 1, 1, 0);
        x.stall(1, 2, 0, 1, 1, 0);
        for (int smell = 0; smell <= 3; smell++) {
            if (smell != 2) {
                x.clash(2, smell, true);
                x.clash(smell, smell, true);
            }
        }
        laid(x, 0, 17, 0, 1);
        x.clash(2, 2, true);
        laid(x, 0, 9, 0, NOTHING);
        x.change(1, 1, 3);
        laid(x, 0, 9, 0, NOTHING);
        x.clash(3, 2, false);
        laid(x, 0, 17, 0, 1);
    }

    private static void smellsOverALane() {
        due.says("BESIDE one another if their numbers are one apart");
        NightStalls x = streetOf(9, 99, 8);
        x.place(1, 2, 1);
        x.clash(1, 1, true);
        x.stall(0, 1, 0, 1, 1, 0);
        x.stall(1, 1, 0, 1, 1, 0);
        laid(x, 0, 17, 0, 2);
    }

    private static void withinTheLimit() {
        due.says("on each LINE their WATTS, together, within its LIMIT.");
        NightStalls x = streetOf(9, 8, 7);
        x.stall(0, 0, 10, 1, 1, 0);
        x.stall(1, 0, 20, 1, 1, 0);
        laid(x, 0, 17, 0, 1);
        x.change(1, 2, 21);
        laid(x, 0, 9, 0, NOTHING);
        x.limit(0, 31);
        laid(x, 0, 17, 0, 1);
        x.stall(2, 0, 1, 1, 1, 0);
        laid(x, 0, 17, 0, 1, NOTHING);
        x.limit(0, 32);
        laid(x, 0, 24, 0, 1, 2);
    }

    private static void eachLineForItself() {
        due.says("on each LINE their WATTS, together");
        NightStalls x = streetOf(9, 8, 7);
        for (int stall = 0; stall < 3; stall++) {
            x.stall(stall, 0, 30, 1, 1, 0);
        }
        laid(x, 0, 9, 0, NOTHING, NOTHING);
        x.place(1, 1, 1);
        laid(x, 0, 17, 0, 1, NOTHING);
        x.place(2, 1, 2);
        laid(x, 0, 24, 0, 1, 2);
        x.limit(1, 29);
        laid(x, 0, 16, 0, 2, NOTHING);
        x.change(2, 2, 29);
        laid(x, 0, 24, 0, 2, 1);
    }

    private static void limitZero() {
        due.says("LIMIT (0 to 99;");
        NightStalls x = streetOf(9, 8);
        x.limit(0, 0);
        x.stall(0, 0, 1, 1, 1, 0);
        x.stall(1, 0, 0, 1, 1, 0);
        laid(x, 0, 9, NOTHING, 0);
        x.change(0, 2, 0);
        laid(x, 0, 17, 0, 1);
    }

    private static void limitNinetyNine() {
        due.says("within its LIMIT");
        NightStalls x = streetOf(9, 8, 7, 6, 5);
        x.limit(0, 99);
        for (int stall = 0; stall < 3; stall++) {
            x.stall(stall, 0, 30, 1, 1, 0);
        }
        x.stall(3, 0, 9, 1, 1, 0);
        laid(x, 0, 30, 0, 1, 2, 3);
        x.stall(4, 0, 0, 1, 1, 0);
        laid(x, 0, 35, 0, 1, 2, 3, 4);
        x.change(4, 2, 1);
        laid(x, 0, 30, 0, 1, 2, 3, NOTHING);
        x.limit(0, 98);
        laid(x, 0, 30, 0, 1, 2, NOTHING, 3);
    }

    private static void oneAboveTheLimitAlone() {
        due.says("their WATTS, together, within its LIMIT");
        NightStalls x = streetOf(9);
        x.stall(0, 0, 30, 1, 1, 0);
        laid(x, 0, 9, 0);
        x.limit(0, 29);
        laid(x, 0, 0, NOTHING);
        due.is("open", x.open(0), 0);
    }

    private static void greatestRent() {
        due.says("THE LAYOUT has the greatest sum of RENTS");
        NightStalls x = streetOf(0, 1, 0);
        x.stall(0, 0, 0, 1, 1, 0);
        laid(x, 0, 1, 1);
        x.place(2, 0, 2);
        laid(x, 0, 2, 2);
        x.place(0, 0, 99);
        laid(x, 0, 99, 0);
        NightStalls y = streetOf(50, 99, 50, 99, 50);
        for (int stall = 0; stall < 3; stall++) {
            y.stall(0, 0, 0, 1, 1, 0);
        }
        laid(y, 0, 198, 1, 3, NOTHING);
        y.place(2, 0, 99);
        laid(y, 0, 199, 0, 2, 4);
    }

    /** The best is neither the first nor the last that is tried, with more PLACES than STALLS. */
    private static void greatestRentInTheMiddle() {
        due.says("the greatest sum of RENTS");
        NightStalls x = streetOf(1, 9, 8, 0, 0);
        x.stall(0, 0, 0, 1, 1, 0);
        x.stall(1, 0, 0, 1, 1, 0);
        laid(x, 0, 17, 1, 2);
        NightStalls y = streetOf(2, 5, 40, 3, 60, 50, 1, 4);
        for (int stall = 0; stall < 3; stall++) {
            y.stall(stall, 0, 0, 1, 1, 0);
        }
        laid(y, 0, 150, 2, 4, 5);
        y.rule(0, 3);
        y.change(1, 0, 0);
        laid(y, 0, 115, 1, 5, 4);
        y.change(2, 0, 0);
        laid(y, 0, 62, 0, 4, NOTHING);
    }

    private static void rentAheadOfMoreStalls() {
        due.says("THE LAYOUT has the greatest sum of RENTS; of several");
        NightStalls x = streetOf(49, 99, 49);
        x.stall(0, 0, 0, 1, 1, 0);
        x.stall(0, 0, 0, 1, 1, 0);
        laid(x, 0, 99, 1, NOTHING);
        x.place(2, 0, 50);
        laid(x, 0, 99, 0, 2);
        x.place(2, 0, 51);
        laid(x, 0, 100, 0, 2);
    }

    private static void mostStalls() {
        due.says("of several the most STALLS that are given a PLACE");
        NightStalls x = streetOf(30, 60, 30);
        x.stall(0, 0, 0, 1, 1, 0);
        x.stall(0, 0, 0, 1, 1, 0);
        laid(x, 0, 60, 0, 2);
        NightStalls y = streetOf(7, 7, 0);
        y.stall(0, 0, 30, 1, 1, 0);
        y.stall(1, 0, 15, 1, 1, 0);
        y.stall(2, 0, 15, 1, 1, 0);
        laid(y, 0, 14, NOTHING, 0, 1);
        // As much RENT with STALL 0 alone, which would be the lesser PLACE for the first one.
        NightStalls z = streetOf(7, 0);
        z.stall(0, 0, 30, 1, 1, 0);
        z.stall(1, 0, 15, 1, 1, 0);
        z.stall(2, 0, 15, 1, 1, 0);
        laid(z, 0, 7, NOTHING, 0, 1);
        z.change(2, 2, 16);
        laid(z, 0, 7, 0, NOTHING, NOTHING);
    }

    private static void rentOfNothing() {
        due.says("the most STALLS that are given a PLACE");
        NightStalls x = streetOf(0, 0, 0);
        x.stall(0, 0, 0, 1, 1, 0);
        laid(x, 0, 0, 0);
        x.stall(0, 0, 0, 1, 1, 0);
        laid(x, 0, 0, 0, 2);
        x.stall(0, 0, 0, 1, 1, 0);
        laid(x, 0, 0, 0, 2, NOTHING);
        x.rule(0, 0);
        laid(x, 0, 0, 0, 1, 2);
        due.is("open", x.open(0), 3);
    }

    private static void lesserPlace() {
        due.says("of several it is the one in which the first STALL for which they are unlike "
                + "has the lesser PLACE");
        NightStalls x = streetOf(4, 4, 4, 4, 4, 4, 4, 4);
        x.stall(0, 0, 0, 1, 1, 0);
        laid(x, 0, 4, 0);
        x.stall(1, 0, 0, 1, 1, 0);
        laid(x, 0, 8, 0, 1);
        x.stall(0, 0, 0, 1, 1, 0);
        laid(x, 0, 12, 0, 1, 2);
        x.rule(0, 3);
        laid(x, 0, 12, 0, 1, 4);
        NightStalls y = streetOf(3, 5, 5, 3);
        y.stall(0, 0, 0, 1, 1, 0);
        y.stall(1, 0, 0, 1, 1, 0);
        laid(y, 0, 10, 1, 2);
    }

    private static void nothingBehindAll() {
        due.says("has the lesser PLACE (nothing stands behind all).");
        NightStalls x = streetOf(0, 0, 0, 0, 0, 0, 0, 9);
        for (int place = 0; place < 7; place++) {
            x.place(place, 2, 1);
        }
        x.stall(0, 0, 0, 1, 1, 0);
        x.stall(1, 0, 0, 1, 1, 0);
        laid(x, 0, 9, 7, NOTHING);
        NightStalls y = streetOf(9, 9);
        for (int stall = 0; stall < 3; stall++) {
            y.stall(stall, 0, 15, 1, 1, 0);
        }
        laid(y, 0, 18, 0, 1, NOTHING);
        y.stall(3, 0, 15, 1, 1, 0);
        y.stall(4, 0, 15, 1, 1, 0);
        laid(y, 0, 18, 0, 1, NOTHING, NOTHING, NOTHING);
    }

    private static void firstUnlikeStall() {
        due.says("it is the one in which the first STALL for which they are unlike");
        // STALL 0 is alike in both: on its one PLACE. Of 1 and 2 one takes what is left.
        NightStalls x = streetOf(9, 5);
        x.stall(0, 0, 0, 1, 1, 0);
        x.stall(0, 0, 0, 1, 1, 0);
        x.stall(1, 0, 0, 1, 1, 0);
        laid(x, 0, 14, 0, NOTHING, 1);
        x.change(0, 0, 1);
        laid(x, 0, 14, 0, 1, NOTHING);
        // A lesser PLACE of a later STALL counts for less than a lesser one of an earlier.
        NightStalls y = streetOf(6, 6, 6);
        y.clash(0, 1, true);
        y.stall(0, 0, 0, 1, 1, 0);
        y.stall(1, 1, 0, 1, 1, 0);
        laid(y, 0, 12, 0, 2);
        y.stall(2, 2, 0, 1, 1, 0);
        laid(y, 0, 18, 0, 2, 1);
    }

    private static void allRulesAtOnce() {
        due.says("STALLS of one DISH on PLACES whose numbers are more than APART "
                + "(0 to 3; 1 at first) apart; no two BESIDE one another whose SMELLS CLASH; "
                + "on each LINE their WATTS, together, within its LIMIT.");
        NightStalls x = streetOf(10, 90, 80, 99, 70, 60);
        x.place(3, 2, 1);
        x.place(4, 1, 1);
        x.place(5, 1, 1);
        x.clash(0, 1, true);
        x.stall(0, 0, 20, 1, 1, 5);
        x.stall(0, 2, 10, 1, 1, 5);
        x.stall(1, 1, 10, 1, 1, 5);
        x.stall(2, 2, 11, 1, 1, 4);
        // On PLACES 1 and 2 STALL 0 bears neither 1 (one DISH) nor 2 (SMELLS): so it goes to 4.
        laid(x, 5, 240, 4, 1, 2);
        // STALL 3 would bring 60 more beside STALL 0, but with 20 + 11 WATTS on a LINE.
        laid(x, 4, 240, 4, 1, 2, NOTHING);
        x.limit(0, 31);
        laid(x, 4, 300, 1, 4, 5, 2);
    }

    private static void layoutAtAnyTime() {
        due.says("The PLACE that THE LAYOUT for a NIGHT gives a STALL.");
        NightStalls x = streetOf(5, 9, 7);
        x.stall(0, 0, 0, 1, 1, 0);
        x.stall(1, 0, 0, 1, 1, 99);
        laid(x, 0, 16, 1, 2);
        laid(x, 1, 9, NOTHING, 1);
        x.open(1);
        due.is("where it stands by night", x.of(1, 6), 1);
        laid(x, 0, 16, 1, 2);
        laid(x, 99, 9, NOTHING, 1);
        due.is("it stands there still", x.of(1, 6), 1);
        x.shut();
        x.place(0, 0, 99);
        laid(x, 1, 99, NOTHING, 0);
        due.is("it stands there still", x.of(1, 6), 1);
    }

    private static void worthIsOfTheLayout() {
        due.says("The sum of RENTS of THE LAYOUT for a NIGHT.");
        NightStalls x = streetOf(30, 60, 31, 5);
        x.stall(0, 0, 0, 1, 1, 0);
        x.stall(0, 0, 0, 1, 1, 1);
        x.stall(0, 0, 0, 1, 1, 1);
        int[] worths = {65, 65, 0};
        for (int night = 0; night < worths.length; night++) {
            int sum = 0;
            int[] rents = {30, 60, 31, 5};
            for (int stall = 0; stall < 3; stall++) {
                int place = x.layout(night, stall);
                sum += place == NOTHING ? 0 : rents[place];
            }
            due.is("the sum of what is given, " + night, sum, worths[night]);
            due.is("worth " + night, x.worth(night), worths[night]);
        }
    }

    private static void openStandsSo() {
        due.says("As it opens, STALLS stand as THE LAYOUT for it says");
        NightStalls x = streetOf(5, 9, 7);
        x.stall(0, 0, 0, 1, 1, 0);
        x.stall(1, 0, 0, 1, 1, 99);
        x.stall(0, 0, 0, 1, 1, 99);
        int[] nights = {0, 1, 99};
        for (int night : nights) {
            int[] places = {x.layout(night, 0), x.layout(night, 1), x.layout(night, 2)};
            int standing = 0;
            for (int place : places) {
                standing += place == NOTHING ? 0 : 1;
            }
            due.is("open " + night, x.open(night), standing);
            due.is("STALLS that stand", x.many(2), standing);
            for (int stall = 0; stall < 3; stall++) {
                due.is("of(" + stall + ", 6)", x.of(stall, 6), places[stall]);
            }
            x.shut();
        }
    }
}
