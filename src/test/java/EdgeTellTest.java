/** The edges of what is told: the rest of a BILL, the bits of SUSPECTS, none and the most. */
public final class EdgeTellTest {
    private static final Due due = new Due();
    private static final int NONE = NightStalls.NONE;
    private static final int HIGH = Integer.MAX_VALUE;

    public static void main(String[] args) {
        billRestAway();
        billWithoutSales();
        billOfOneThatDoesNotStand();
        billLeastAndGreatest();
        billsTogether();
        tookWithEachSale();
        tookThePriceOfThen();
        placeWhereItStands();
        traitsAsChange();
        salesAndTook();
        guestsThatAreThere();
        ticksLeft();
        eachKindOfGuest();
        guestOfEachDish();
        suspectsFromTickToTick();
        suspectsAsBits();
        suspectsOfTheirDish();
        suspectsAreToldOnce();
        suspectsOfDaysGoneBy();
        linesTold();
        manyAtTheLeast();
        allFed();
        allAngry();
        allGone();
        due.end();
    }

    /** A STALL on PLACE 0 that has sold so many times at a PRICE. */
    private static NightStalls sold(int rent, int price, int sales) {
        NightStalls x = new NightStalls();
        x.place(0, 0, rent);
        x.stall(0, 0, 0, 1, price, 0);
        x.open(0);
        for (int i = 0; i < sales; i++) {
            x.guest(0, 1);
            x.go(3);
        }
        return x;
    }

    private static void billRestAway() {
        due.says("hundredths of what it TOOK (the rest away)");
        int[] shares = {0, 1, 9, 10, 33, 49, 50};
        int[] prices = {1, 2, 3, 9, 10, 19, 20};
        int[] sales = {0, 1, 2, 3, 5, 10};
        for (int price : prices) {
            for (int many : sales) {
                NightStalls x = sold(40, price, many);
                x.shut();
                for (int share : shares) {
                    x.rule(1, share);
                    due.is("BILL with SHARE " + share + " of " + many + " at " + price,
                            x.of(0, 11), 40 + many * price * share / 100);
                }
            }
        }
        due.is("9 hundredths and 90: 0", sold(0, 9, 1).of(0, 11), 0);
        due.is("100 hundredths: 1", sold(0, 10, 1).of(0, 11), 1);
        due.is("190 hundredths: 1", sold(0, 19, 1).of(0, 11), 1);
        due.is("200 hundredths: 2", sold(0, 20, 1).of(0, 11), 2);
        NightStalls x = sold(0, 9, 11);
        x.shut();
        x.rule(1, 1);
        due.is("99 hundredths: 0", x.of(0, 11), 0);
        NightStalls y = sold(0, 10, 10);
        y.shut();
        y.rule(1, 1);
        due.is("100 hundredths: 1", y.of(0, 11), 1);
    }

    private static void billWithoutSales() {
        due.says("BILL of a STALL: the RENT of its PLACE");
        due.is("RENT 0", sold(0, 20, 0).of(0, 11), 0);
        due.is("RENT 99", sold(99, 20, 0).of(0, 11), 99);
        NightStalls x = new NightStalls();
        x.street(2);
        x.place(0, 0, 3);
        x.place(1, 0, 4);
        x.stall(0, 0, 0, 1, 1, 0);
        x.open(0);
        due.is("of its PLACE alone", x.of(0, 11), 4);
    }

    private static void billOfOneThatDoesNotStand() {
        due.says("11 its BILL (0: it doesn't stand).");
        NightStalls x = new NightStalls();
        x.place(0, 0, 99);
        x.stall(0, 0, 0, 1, 1, 5);
        due.is("before a NIGHT", x.of(0, 11), 0);
        x.open(5);
        due.is("it stands", x.of(0, 11), 99);
        x.shut();
        due.is("shut", x.of(0, 11), 99);
        x.open(6);
        due.is("it stands no more", x.of(0, 11), 0);
        due.is("all BILLS", x.many(10), 0);
    }

    private static void billLeastAndGreatest() {
        due.says("and SHARE (0 to 50; 10 at first) hundredths of what it TOOK");
        NightStalls x = sold(99, 20, 20);
        due.is("SALES", x.of(0, 7), 20);
        due.is("TOOK", x.of(0, 8), 400);
        due.is("BILL with SHARE at first", x.of(0, 11), 139);
        x.shut();
        x.rule(1, 50);
        due.is("the greatest BILL", x.of(0, 11), 299);
        due.is("all BILLS", x.many(10), 299);
        x.rule(1, 0);
        due.is("SHARE 0", x.of(0, 11), 99);
        x.place(0, 0, 0);
        due.is("the least BILL", x.of(0, 11), 0);
    }

    private static void billsTogether() {
        due.says("9 what all TOOK, 10 all BILLS together");
        NightStalls x = new NightStalls();
        x.street(5);
        for (int dish = 0; dish < 5; dish++) {
            x.place(dish, 0, 7);
            x.stall(dish, 0, 0, 1, 19, 0);
        }
        x.open(0);
        for (int dish = 0; dish < 5; dish++) {
            x.guest(dish, 9);
        }
        due.is("go(10)", x.go(10), 5);
        due.is("all TOOK", x.many(9), 95);
        due.is("the rest is away in each: 5 times 7 + 1", x.many(10), 40);
    }

    private static void tookWithEachSale() {
        due.says("it TOOK its PRICE with each SALE.");
        int[] prices = {1, 20};
        for (int price : prices) {
            NightStalls x = new NightStalls();
            x.stall(0, 0, 0, 1, price, 0);
            x.open(0);
            due.is("none yet", x.of(0, 8), 0);
            for (int sale = 1; sale <= 20; sale++) {
                x.guest(0, 1);
                x.go(2);
                due.is("not ahead of it", x.of(0, 8), (sale - 1) * price);
                x.go(1);
                due.is("SALES", x.of(0, 7), sale);
                due.is("TOOK", x.of(0, 8), sale * price);
            }
        }
        NightStalls angry = new NightStalls();
        angry.stall(0, 0, 0, 9, 20, 0);
        angry.open(0);
        angry.guest(0, 1);
        angry.guest(0, 1);
        angry.go(9);
        due.is("no SALE: it is COOKED for, or ANGRY", angry.of(0, 8), 0);
    }

    private static void tookThePriceOfThen() {
        due.says("GUESTS and SALES stay told as they are");
        NightStalls x = sold(0, 20, 3);
        x.shut();
        x.change(0, 4, 1);
        due.is("TOOK", x.of(0, 8), 60);
        due.is("all TOOK", x.many(9), 60);
        due.is("BILL", x.of(0, 11), 6);
        due.is("SALES", x.of(0, 7), 3);
    }

    private static void placeWhereItStands() {
        due.says("6 the PLACE where it stands (NONE)");
        NightStalls x = new NightStalls();
        x.street(8);
        x.place(7, 0, 1);
        x.stall(0, 0, 0, 1, 1, 0);
        due.is("before a NIGHT", x.of(0, 6), NONE);
        x.open(0);
        due.is("the last PLACE", x.of(0, 6), 7);
        x.shut();
        x.place(0, 0, 2);
        due.is("shut", x.of(0, 6), 7);
        x.open(0);
        due.is("the first PLACE", x.of(0, 6), 0);
        x.shut();
        x.open(1);
        due.is("it doesn't stand", x.of(0, 6), NONE);
    }

    private static void traitsAsChange() {
        due.says("Of a STALL: what = 0 to 5 as change()");
        NightStalls x = Scene.FULL_OF_STALLS.make();
        for (int stall = 0; stall < 5; stall++) {
            for (int what = 0; what < 6; what++) {
                int was = x.of(stall, what);
                int other = was == 1 ? 2 : 1;
                due.is("change answers what of told", x.change(stall, what, other), was);
                due.is("of tells what change set", x.of(stall, what), other);
            }
        }
        x.open(0);
        due.is("by night", x.of(4, 5), 1);
        x.shut();
        due.is("shut", x.of(4, 5), 1);
    }

    private static void salesAndTook() {
        due.says("7 SALES, 8 what it TOOK");
        NightStalls x = new NightStalls();
        x.street(3);
        x.stall(0, 0, 0, 1, 20, 0);
        x.stall(0, 0, 0, 1, 1, 0);
        due.is("SALES before a NIGHT", x.of(0, 7), 0);
        due.is("TOOK before a NIGHT", x.of(0, 8), 0);
        x.open(0);
        for (int guest = 0; guest < 4; guest++) {
            x.guest(0, 50);
        }
        due.is("go(50)", x.go(50), 4);
        int[][] want = {{3, 60}, {1, 1}};
        for (int stall = 0; stall < 2; stall++) {
            due.is("SALES of " + stall, x.of(stall, 7), want[stall][0]);
            due.is("TOOK of " + stall, x.of(stall, 8), want[stall][1]);
        }
    }

    private static void guestsThatAreThere() {
        due.says("9 GUESTS that are there");
        NightStalls x = new NightStalls();
        x.stall(0, 0, 0, 1, 1, 0);
        x.open(0);
        due.is("none", x.of(0, 9), 0);
        x.guest(0, 9);
        x.guest(0, 9);
        x.guest(0, 9);
        due.is("who WALKS where it stands isn't there", x.of(0, 9), 0);
        int[] there = {3, 3, 2, 1, 0, 0};
        for (int tick = 0; tick < there.length; tick++) {
            x.go(1);
            due.is("behind TICK " + tick, x.of(0, 9), there[tick]);
        }
    }

    private static void ticksLeft() {
        due.says("10 TICKS left to cook (0: it doesn't COOK)");
        NightStalls x = new NightStalls();
        x.stall(0, 0, 0, 9, 1, 0);
        due.is("before a NIGHT", x.of(0, 10), 0);
        x.open(0);
        x.guest(0, 9);
        due.is("none WAITS", x.of(0, 10), 0);
        x.go(1);
        due.is("one WAITS", x.of(0, 10), 0);
        for (int left = 9; left >= 0; left--) {
            x.go(1);
            due.is("left", x.of(0, 10), left);
        }
        x.go(1);
        due.is("left", x.of(0, 10), 0);
    }

    private static void eachKindOfGuest() {
        due.says("Of a GUEST: what = 0 0 it WALKS, 1 WAITS, 2 is COOKED for, 3 FED, 4 ANGRY, "
                + "5 GONE, 1 the PLACE where it is (NONE: 3 to 5), 2 its PATIENCE, 3 its DISH, "
                + "4 the STALL where it WAITS, is COOKED for or was FED (NONE).");
        NightStalls x = Scene.NIGHT.make();
        int[][] want = {{3, NONE, 9, 0, 0}, {4, NONE, 0, 0, NONE}, {2, 0, 6, 0, 0},
            {5, NONE, 7, 5, NONE}, {1, 0, 6, 0, 0}, {1, 0, 5, 0, 0}, {0, 0, 4, 1, NONE}};
        for (int guest = 0; guest < want.length; guest++) {
            for (int what = 0; what < 5; what++) {
                due.is("guestOf(" + guest + ", " + what + ")", x.guestOf(guest, what),
                        want[guest][what]);
            }
        }
    }

    private static void guestOfEachDish() {
        due.says("each with a DISH that it wants and a PATIENCE (1 to 50)");
        NightStalls x = new NightStalls();
        x.open(0);
        for (int dish = 0; dish <= 5; dish++) {
            due.is("guest", x.guest(dish, 50 - dish), dish);
        }
        x.go(1);
        for (int dish = 0; dish <= 5; dish++) {
            due.is("its DISH", x.guestOf(dish, 3), dish);
            due.is("its PATIENCE", x.guestOf(dish, 2), 50 - dish);
        }
    }

    /** STALL 0 sells DISH 0 in TICKS 2 and 4. */
    private static NightStalls twoSales() {
        NightStalls x = new NightStalls();
        x.stall(0, 0, 0, 1, 1, 0);
        x.open(0);
        x.guest(0, 1);
        x.go(2);
        x.guest(0, 1);
        due.is("go(8)", x.go(8), 2);
        return x;
    }

    private static void suspectsFromTickToTick() {
        due.says("SUSPECTS of a DISH, from a TICK to a TICK: the STALLS with a SALE of it in "
                + "these.");
        NightStalls x = twoSales();
        for (int from = 0; from < 8; from++) {
            for (int to = from; to < 8; to++) {
                boolean in = from <= 2 && 2 <= to || from <= 4 && 4 <= to;
                due.is("suspects(0, " + from + ", " + to + ")", x.suspects(0, from, to),
                        in ? 1 : 0);
            }
        }
        due.is("far beyond the TICK", x.suspects(0, 0, HIGH), 1);
        due.is("from the last SALE on", x.suspects(0, 4, HIGH), 1);
        due.is("behind the last SALE", x.suspects(0, 5, HIGH), 0);
        due.is("TICKS that were not yet", x.suspects(0, 11, 99), 0);
    }

    /** Five STALLS of one DISH side by side, and as many GUESTS as they bear at a time. */
    private static NightStalls fiveOfOneDish() {
        NightStalls x = new NightStalls();
        x.street(8);
        x.rule(0, 0);
        for (int stall = 0; stall < 5; stall++) {
            x.stall(3, 0, 0, 1, 1, 0);
        }
        x.open(0);
        for (int guest = 0; guest < 15; guest++) {
            x.guest(3, 50);
        }
        return x;
    }

    private static void suspectsAsBits() {
        due.says("SUSPECTS, as bits.");
        NightStalls x = fiveOfOneDish();
        due.is("none yet", x.suspects(3, 0, HIGH), 0);
        // STALL s is come to in TICK s, and first sells in TICK s + 2.
        for (int stall = 0; stall < 5; stall++) {
            x.go(stall == 0 ? 3 : 1);
            due.is("bits up to " + stall, x.suspects(3, 0, HIGH), (1 << stall + 1) - 1);
        }
        due.is("go(50)", x.go(50), 3);
        due.is("all FED", x.many(6), 15);
        due.is("all five", x.suspects(3, 0, HIGH), 31);
        due.is("the last alone", x.suspects(3, 8, 8), 16);
        due.is("the last two", x.suspects(3, 7, 7), 24);
        due.is("the first alone", x.suspects(3, 2, 2), 1);
    }

    private static void suspectsOfTheirDish() {
        due.says("SUSPECTS of a DISH");
        NightStalls x = new NightStalls();
        x.street(5);
        for (int stall = 0; stall < 5; stall++) {
            x.stall(stall + 1, 0, 0, 1, 1, 0);
        }
        x.open(0);
        for (int dish = 0; dish <= 5; dish++) {
            x.guest(dish, 5);
        }
        due.is("go(20)", x.go(20), 5);
        for (int dish = 0; dish <= 5; dish++) {
            due.is("suspects of " + dish, x.suspects(dish, 0, 99), dish == 0 ? 0 : 1 << dish - 1);
        }
    }

    private static void suspectsAreToldOnce() {
        due.says("the STALLS with a SALE of it in these.");
        NightStalls x = twoSales();
        due.is("two SALES, one bit", x.suspects(0, 0, 9), 1);
        NightStalls angry = new NightStalls();
        angry.stall(0, 0, 0, 9, 1, 0);
        angry.open(0);
        angry.guest(0, 9);
        angry.guest(0, 1);
        angry.go(10);
        due.is("who COOKS, and who was left in anger, has no SALE", angry.suspects(0, 0, 99), 0);
        angry.go(1);
        due.is("now it has", angry.suspects(0, 0, 99), 1);
    }

    private static void suspectsOfDaysGoneBy() {
        due.says("SALES stay told as they are, till the next one opens.");
        NightStalls x = twoSales();
        x.shut();
        x.change(0, 0, 1);
        due.is("who sold it then", x.suspects(0, 0, 99), 1);
        due.is("who sells it now", x.suspects(1, 0, 99), 0);
        x.change(0, 5, 99);
        x.open(1);
        due.is("the next NIGHT has none", x.suspects(0, 0, 99), 0);
        due.is("the next NIGHT has none", x.suspects(1, 0, 99), 0);
    }

    private static void linesTold() {
        due.says("Of a LINE: what = 0 LIMIT, 1 the WATTS of STALLS that stand on it, 2 what is "
                + "PLUGGED, 3 1 if it has TRIPPED, else 0.");
        NightStalls x = new NightStalls();
        x.street(5);
        x.limit(2, 99);
        for (int stall = 0; stall < 4; stall++) {
            x.place(stall, 1, 2);
            x.stall(stall, 0, stall < 3 ? 30 : 9, 1, 1, 0);
        }
        due.is("before a NIGHT none stands", x.lineOf(2, 1), 0);
        x.open(0);
        int[][] want = {{30, 0, 0, 0}, {30, 0, 0, 0}, {99, 99, 0, 0}};
        for (int line = 0; line <= 2; line++) {
            for (int what = 0; what <= 3; what++) {
                due.is("lineOf(" + line + ", " + what + ")", x.lineOf(line, what),
                        want[line][what]);
            }
        }
        due.is("plug(2, 99)", x.plug(2, 99), 1);
        due.is("WATTS of STALLS alone", x.lineOf(2, 1), 99);
        due.is("PLUGGED", x.lineOf(2, 2), 99);
        due.is("TRIPPED", x.lineOf(2, 3), 1);
        due.is("another is not", x.lineOf(1, 3), 0);
    }

    private static void manyAtTheLeast() {
        due.says("How many: what = 0 PLACES, 1 STALLS, 2 STALLS that stand, 3 1 if a NIGHT is "
                + "OPEN, else 0, 4 the TICK, 5 GUESTS, 6 that are FED, 7 ANGRY, 8 GONE, "
                + "9 what all TOOK, 10 all BILLS together, 11 LANES.");
        NightStalls x = Scene.NIGHT.make();
        int[] want = {4, 3, 2, 1, 5, 7, 1, 1, 1, 9, 32, 1};
        for (int what = 0; what < want.length; what++) {
            due.is("many(" + what + ")", x.many(what), want[what]);
        }
        NightStalls y = new NightStalls();
        y.open(0);
        int[] least = {1, 0, 0, 1, 0, 0, 0, 0, 0, 0, 0, 0};
        for (int what = 0; what < least.length; what++) {
            due.is("many(" + what + ")", y.many(what), least[what]);
        }
    }

    private static void allFed() {
        due.says("5 GUESTS, 6 that are FED");
        NightStalls x = fiveOfOneDish();
        int sales = x.go(50);
        for (int guest = 15; guest < 20; guest++) {
            x.guest(3, 50);
        }
        due.is("SALES", sales + x.go(50), 20);
        int[] want = {8, 5, 5, 1, 100, 20, 20, 0, 0, 20, 0, 0};
        for (int what = 0; what < want.length; what++) {
            due.is("many(" + what + ")", x.many(what), want[what]);
        }
        for (int stall = 0; stall < 5; stall++) {
            due.is("SALES of " + stall, x.of(stall, 7), stall == 0 ? 6 : stall == 1 ? 5 : 3);
        }
    }

    private static void allAngry() {
        due.says("7 ANGRY");
        NightStalls x = new NightStalls();
        x.stall(0, 0, 0, 9, 1, 0);
        x.open(0);
        for (int guest = 0; guest < 20; guest++) {
            x.guest(0, 1);
            x.go(1);
            due.is("it WAITS", x.guestOf(guest, 0), 1);
            x.plug(0, 99);
            x.go(1);
            due.is("ANGRY", x.many(7), guest + 1);
            x.pull(0);
            x.reset(0);
        }
        due.is("FED", x.many(6), 0);
        due.is("GONE", x.many(8), 0);
        due.is("TOOK", x.many(9), 0);
    }

    private static void allGone() {
        due.says("8 GONE");
        NightStalls x = new NightStalls();
        x.street(8);
        for (int place = 0; place < 8; place++) {
            x.place(place, 2, 1);
        }
        x.stall(0, 0, 0, 1, 1, 0);
        x.open(0);
        for (int guest = 0; guest < 20; guest++) {
            x.guest(0, 50);
        }
        x.go(7);
        due.is("GONE", x.many(8), 0);
        x.go(1);
        int[] want = {8, 1, 0, 1, 8, 20, 0, 0, 20, 0, 0, 8};
        for (int what = 0; what < want.length; what++) {
            due.is("many(" + what + ")", x.many(what), want[what]);
        }
    }
}
