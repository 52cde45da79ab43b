/** The edges of a new object, of street, of a NIGHT that opens and is shut, and of its LINES. */
public final class EdgeNightTest {
    private static final Due due = new Due();
    private static final int NONE = NightStalls.NONE;
    private static final int TRIPS = NightStalls.TRIPS;

    public static void main(String[] args) {
        newObject();
        newObjectsShareNothing();
        streetAsAtFirst();
        streetLeavesTheRest();
        streetEndsWhatWasTold();
        openOrNot();
        openAtFirst();
        openAfterABusyNight();
        openTheSameNightAgain();
        openStandsNoneToFive();
        shutAtOnce();
        shutStaysTold();
        shutStaysToldTillTheNextOpens();
        stallThatComesAfterTheNight();
        guestsCountAnew();
        atTheLimit();
        aboveTheLimit();
        limitZeroAndNinetyNine();
        wattsOfThoseThatStand();
        pluggedIsNotAdded();
        otherLinesGoOn();
        resetOnceItIsPulled();
        resetAndTripAgain();
        pullWhetherTrippedOrNot();
        lastOf512Calls();
        due.end();
    }

    private static void newObject() {
        due.says("One PLACE, no STALLS; no NIGHT was OPEN; nothing is kept.");
        int[] all = {1, 0, 0, 0, 0, 0, 0, 0, 0, 0, 0, 0};
        NightStalls x = new NightStalls();
        for (int what = 0; what < all.length; what++) {
            due.is("many(" + what + ")", x.many(what), all[what]);
        }
        due.is("no STALL 0", x.of(0, 0), NightStalls.NUMBER);
        due.is("no GUEST 0", x.guestOf(0, 0), NightStalls.NUMBER);
        due.is("shut", x.shut(), NightStalls.STATE);
        due.is("back", x.back(), NONE);
        due.is("worth", x.worth(0), 0);
        for (int dish = 0; dish <= 5; dish++) {
            due.is("suspects", x.suspects(dish, 0, Integer.MAX_VALUE), 0);
        }
        for (int line = 0; line <= 2; line++) {
            int[] want = {30, 0, 0, 0};
            for (int what = 0; what < want.length; what++) {
                due.is("lineOf(" + line + ", " + what + ")", x.lineOf(line, what), want[what]);
            }
        }
        due.is("open", x.open(99), 0);
    }

    private static void newObjectsShareNothing() {
        due.says("`NightStalls()`: One PLACE, no STALLS");
        NightStalls other = Scene.NIGHT.make();
        other.keep();
        String before = Tell.NOW.of(other);
        NightStalls x = new NightStalls();
        due.is("STALLS", x.many(1), 0);
        due.is("OPEN", x.many(3), 0);
        due.is("back", x.back(), NONE);
        x.street(8);
        x.limit(1, 99);
        due.same("the other one", Tell.NOW.of(other), before);
    }

    private static void streetAsAtFirst() {
        due.says("THE STREET has n PLACES, all as at first;");
        for (int n = 1; n <= 8; n++) {
            NightStalls x = new NightStalls();
            x.street(8);
            for (int place = 0; place < 8; place++) {
                x.place(place, 0, 90 + place);
                x.place(place, 1, 1 + place % 2);
                x.place(place, 2, 1);
            }
            due.is("street(" + n + ")", x.street(n), n);
            due.is("PLACES", x.many(0), n);
            due.is("LANES", x.many(11), 0);
            for (int what = 0; what < 3; what++) {
                for (int place = 0; place < n; place++) {
                    due.is("place(" + place + ", " + what + ")", x.place(place, what, 1), 0);
                }
                due.is("place(n)", x.place(n, what, 1), NightStalls.NUMBER);
            }
            due.is("as many again", x.street(n), n);
            due.is("as at first again", x.place(n - 1, 0, 1), 0);
            due.is("street(8)", x.street(8), 8);
            due.is("the last one as at first", x.place(7, 0, 0), 0);
        }
    }

    private static void streetLeavesTheRest() {
        due.says("`int street(int n)`: THE STREET has n PLACES");
        NightStalls x = Scene.SHUT.make();
        x.street(2);
        int[][] traits = {{0, 0, 10, 2, 9, 99}, {1, 1, 20, 9, 20, 50}, {2, 2, 14, 1, 3, 2}};
        due.is("STALLS", x.many(1), 3);
        for (int stall = 0; stall < 3; stall++) {
            for (int what = 0; what < 6; what++) {
                due.is("of(" + stall + ", " + what + ")", x.of(stall, what), traits[stall][what]);
            }
        }
        due.is("LIMIT 0", x.lineOf(0, 0), 40);
        due.is("LIMIT 2", x.lineOf(2, 0), 50);
        due.is("APART", x.rule(0, 2), 2);
        due.is("SHARE", x.rule(1, 25), 25);
        due.is("CLASH", x.clash(1, 0, true), 0);
        due.is("CLASH", x.clash(2, 2, true), 0);
        due.is("no CLASH", x.clash(3, 3, false), 0);
        due.is("back: what is kept stays", x.back(), 1);
        due.is("PLACES", x.many(0), 4);
        due.is("STALLS", x.many(1), 2);
    }

    private static void streetEndsWhatWasTold() {
        due.says("nothing stands or is PLUGGED, no LINE has TRIPPED, there are no GUESTS and SALES "
                + "any more (TICK 0): n.");
        for (Tell part : Tell.values()) {
            NightStalls x = Scene.SHUT.make();
            due.is("street(4)", x.street(4), 4);
            NightStalls y = Scene.DAY.make();
            y.street(4);
            due.same("as if no NIGHT had been", part.of(x), part.of(y));
        }
        NightStalls x = Scene.SHUT.make();
        due.is("TICK before", x.many(4), 5);
        due.is("street(4)", x.street(4), 4);
        int[] all = {4, 3, 0, 0, 0, 0, 0, 0, 0, 0, 0, 0};
        for (int what = 0; what < all.length; what++) {
            due.is("many(" + what + ")", x.many(what), all[what]);
        }
        due.is("of(0, 6)", x.of(0, 6), NONE);
        for (int what = 7; what <= 11; what++) {
            due.is("of(0, " + what + ")", x.of(0, what), 0);
        }
        for (int line = 0; line <= 2; line++) {
            for (int what = 1; what <= 3; what++) {
                due.is("lineOf(" + line + ", " + what + ")", x.lineOf(line, what), 0);
            }
        }
        due.is("guestOf(0, 0)", x.guestOf(0, 0), NightStalls.NUMBER);
        due.is("suspects", x.suspects(0, 0, 99), 0);
        due.is("shut", x.shut(), NightStalls.STATE);
    }

    private static void openOrNot() {
        due.says("A NIGHT is OPEN or not.");
        NightStalls x = new NightStalls();
        due.is("OPEN", x.many(3), 0);
        x.open(0);
        due.is("OPEN", x.many(3), 1);
        due.is("another", x.open(1), NightStalls.STATE);
        due.is("OPEN", x.many(3), 1);
        x.shut();
        due.is("OPEN", x.many(3), 0);
        due.is("another", x.open(1), 0);
        due.is("OPEN", x.many(3), 1);
    }

    private static void openAtFirst() {
        due.says("the TICK is 0, no LINE has TRIPPED, nothing is PLUGGED; there are no GUESTS.");
        NightStalls x = Scene.DAY.make();
        due.is("open", x.open(3), 2);
        asItOpens(x);
    }

    private static void openAfterABusyNight() {
        due.says("As it opens, STALLS stand as THE LAYOUT for it says, the TICK is 0, "
                + "no LINE has TRIPPED, nothing is PLUGGED; there are no GUESTS.");
        for (Tell part : Tell.values()) {
            NightStalls x = Scene.SHUT.make();
            due.is("open", x.open(3), 2);
            NightStalls y = Scene.DAY.make();
            y.open(3);
            due.same("as if it were the first NIGHT", part.of(x), part.of(y));
        }
        NightStalls x = Scene.SHUT.make();
        x.open(3);
        asItOpens(x);
    }

    private static void asItOpens(NightStalls x) {
        int[] all = {4, 3, 2, 1, 0, 0, 0, 0, 0, 0, 30, 1};
        for (int what = 0; what < all.length; what++) {
            due.is("many(" + what + ")", x.many(what), all[what]);
        }
        int[][] stalls = {{0, 0, 0, 0, 0, 10}, {2, 0, 0, 0, 0, 20}, {NONE, 0, 0, 0, 0, 0}};
        for (int stall = 0; stall < 3; stall++) {
            for (int what = 6; what <= 11; what++) {
                due.is("of(" + stall + ", " + what + ")", x.of(stall, what),
                        stalls[stall][what - 6]);
            }
        }
        int[] watts = {10, 20, 0};
        for (int line = 0; line <= 2; line++) {
            due.is("WATTS on LINE " + line, x.lineOf(line, 1), watts[line]);
            due.is("PLUGGED on LINE " + line, x.lineOf(line, 2), 0);
            due.is("TRIPPED LINE " + line, x.lineOf(line, 3), 0);
        }
        due.is("guestOf(0, 0)", x.guestOf(0, 0), NightStalls.NUMBER);
        due.is("suspects", x.suspects(0, 0, 99), 0);
    }

    private static void openTheSameNightAgain() {
        due.says("A NIGHT opens: how many STALLS stand.");
        NightStalls x = new NightStalls();
        x.stall(0, 0, 0, 1, 1, 7);
        int[] nights = {7, 7, 0, 7, 8, 7, 99, 0};
        for (int night : nights) {
            due.is("open(" + night + ")", x.open(night), night <= 7 ? 1 : 0);
            due.is("STALLS that stand", x.many(2), night <= 7 ? 1 : 0);
            x.shut();
        }
    }

    private static void openStandsNoneToFive() {
        due.says("`int open(int night)`: A NIGHT opens: how many STALLS stand.");
        NightStalls x = new NightStalls();
        x.street(8);
        due.is("open with no STALLS", x.open(0), 0);
        x.shut();
        for (int stall = 0; stall < 5; stall++) {
            x.stall(stall, 0, 0, 1, 1, 9);
            due.is("open with " + (stall + 1), x.open(9), stall + 1);
            x.shut();
        }
        due.is("open when all PAPERS are over", x.open(10), 0);
    }

    private static void shutAtOnce() {
        due.says("The NIGHT is shut: its TICK.");
        NightStalls x = new NightStalls();
        x.open(0);
        due.is("shut in TICK 0", x.shut(), 0);
        x.open(0);
        x.go(1);
        due.is("shut in TICK 1", x.shut(), 1);
        due.is("the TICK stays told", x.many(4), 1);
        x.open(0);
        due.is("shut in TICK 0", x.shut(), 0);
    }

    private static void shutStaysTold() {
        due.says("When a NIGHT is shut, what stands, GUESTS and SALES stay told as they are");
        for (Scene scene : Scene.OPEN) {
            NightStalls x = scene.make();
            String before = Tell.NOW.of(x);
            int tick = x.many(4);
            due.is("shut", x.shut(), tick);
            due.is("OPEN", x.many(3), 0);
            // What is told by day but for OPEN (the fourth number) is what was told by night.
            String[] after = Tell.NOW.of(x).split(" ");
            after[4] = "1";
            due.same("what is told", String.join(" ", after), before);
        }
    }

    private static void shutStaysToldTillTheNextOpens() {
        due.says("stay told as they are, till the next one opens.");
        NightStalls x = Scene.SHUT.make();
        x.change(0, 0, 5);
        x.change(0, 3, 9);
        x.change(0, 4, 20);
        x.change(0, 5, 0);
        x.change(1, 5, 0);
        x.place(0, 2, 1);
        x.clash(0, 0, true);
        x.rule(0, 3);
        x.open(100);
        x.layout(0, 0);
        x.worth(99);
        int[] stands = {0, 2, NONE};
        for (int stall = 0; stall < 3; stall++) {
            due.is("where STALL " + stall + " stands", x.of(stall, 6), stands[stall]);
        }
        int[] told = {1, 9, 3, 1};
        for (int what = 7; what <= 10; what++) {
            due.is("of(0, " + what + ")", x.of(0, what), told[what - 7]);
        }
        int[] kinds = {3, 4, 2, 5, 1, 1, 0};
        for (int guest = 0; guest < kinds.length; guest++) {
            due.is("guestOf(" + guest + ", 0)", x.guestOf(guest, 0), kinds[guest]);
        }
        due.is("who sold it then", x.suspects(0, 0, 99), 1);
        due.is("not who would now", x.suspects(5, 0, 99), 0);
        due.is("what all TOOK", x.many(9), 9);
        due.is("TICK", x.many(4), 5);
        due.is("open", x.open(3), 0);
        due.is("GUESTS", x.many(5), 0);
        due.is("what all TOOK", x.many(9), 0);
        due.is("suspects", x.suspects(0, 0, 99), 0);
        due.is("TICK", x.many(4), 0);
        due.is("where STALL 0 stands", x.of(0, 6), NONE);
    }

    private static void stallThatComesAfterTheNight() {
        due.says("When a NIGHT is shut, what stands");
        NightStalls x = Scene.SHUT.make();
        due.is("stall", x.stall(0, 0, 0, 1, 1, 99), 3);
        due.is("STALLS", x.many(1), 4);
        due.is("STALLS that stand", x.many(2), 2);
        due.is("it doesn't stand", x.of(3, 6), NONE);
        for (int what = 7; what <= 11; what++) {
            due.is("of(3, " + what + ")", x.of(3, what), 0);
        }
    }

    private static void guestsCountAnew() {
        due.says("A GUEST comes: its number.");
        NightStalls x = Scene.FULL_OF_GUESTS.make();
        due.is("guest", x.guest(0, 1), NightStalls.FULL);
        x.shut();
        due.is("GUESTS stay told", x.many(5), 20);
        x.open(0);
        for (int guest = 0; guest < 20; guest++) {
            due.is("guest", x.guest(0, 1), guest);
            int[] want = {0, 0, 1, 0, NONE};
            for (int what = 0; what < want.length; what++) {
                due.is("guestOf(" + guest + ", " + what + ")", x.guestOf(guest, what), want[what]);
            }
        }
        due.is("guest", x.guest(0, 1), NightStalls.FULL);
    }

    /** A STALL of so many WATTS stands on a LINE of such a LIMIT, OPEN. */
    private static NightStalls lineOf(int line, int limit, int watts) {
        NightStalls x = new NightStalls();
        x.place(0, 1, line);
        x.limit(line, limit);
        x.stall(0, 0, watts, 1, 1, 0);
        x.open(0);
        return x;
    }

    private static void atTheLimit() {
        due.says("1 if it TRIPS by that, else 0.");
        for (int line = 0; line <= 2; line++) {
            NightStalls x = lineOf(line, 30, 12);
            due.is("plug up to the LIMIT", x.plug(line, 18), 0);
            due.is("TRIPPED", x.lineOf(line, 3), 0);
            due.is("PLUGGED", x.lineOf(line, 2), 18);
            due.is("the WATTS of STALLS", x.lineOf(line, 1), 12);
            due.is("reset", x.reset(line), NONE);
        }
    }

    private static void aboveTheLimit() {
        due.says("if they are, with the WATTS of all STALLS that stand on it, above its LIMIT, "
                + "it TRIPS.");
        for (int line = 0; line <= 2; line++) {
            NightStalls x = lineOf(line, 30, 12);
            due.is("plug one above", x.plug(line, 19), 1);
            due.is("TRIPPED", x.lineOf(line, 3), 1);
            due.is("PLUGGED", x.lineOf(line, 2), 19);
            due.is("plug 0", x.plug(line, 0), TRIPS);
            due.is("PLUGGED as before", x.lineOf(line, 2), 19);
        }
    }

    private static void limitZeroAndNinetyNine() {
        due.says("PLUGGED WATTS (0 to 99)");
        NightStalls zero = lineOf(0, 0, 0);
        due.is("LIMIT 0, plug 0", zero.plug(0, 0), 0);
        due.is("LIMIT 0, plug 1", zero.plug(0, 1), 1);
        NightStalls most = lineOf(0, 99, 0);
        due.is("LIMIT 99, plug 99", most.plug(0, 99), 0);
        NightStalls above = lineOf(0, 99, 1);
        due.is("LIMIT 99, 1 WATT, plug 98", above.plug(0, 98), 0);
        due.is("LIMIT 99, 1 WATT, plug 99", above.plug(0, 99), 1);
        NightStalls full = lineOf(0, 30, 30);
        due.is("no WATT is left, plug 0", full.plug(0, 0), 0);
        due.is("no WATT is left, plug 1", full.plug(0, 1), 1);
        due.is("reset", full.reset(0), TRIPS);
        full.pull(0);
        due.is("reset of a LINE at its LIMIT", full.reset(0), 1);
    }

    private static void wattsOfThoseThatStand() {
        due.says("PLUGGED WATTS come to a LINE by hand: if they are, with the WATTS of all STALLS "
                + "that stand on it, above its LIMIT");
        NightStalls x = new NightStalls();
        x.street(4);
        x.place(0, 0, 9);
        x.place(1, 0, 8);
        x.place(2, 1, 1);
        x.place(3, 2, 1);
        x.stall(0, 0, 10, 1, 1, 9);
        x.stall(1, 0, 15, 1, 1, 9);
        x.stall(2, 0, 30, 1, 1, 9);
        x.stall(3, 0, 2, 1, 1, 8);
        due.is("open", x.open(9), 3);
        due.is("WATTS of two", x.lineOf(0, 1), 25);
        due.is("WATTS of one", x.lineOf(1, 1), 30);
        due.is("WATTS of none", x.lineOf(2, 1), 0);
        due.is("plug(0, 5)", x.plug(0, 5), 0);
        due.is("plug(2, 30)", x.plug(2, 30), 0);
        due.is("plug(1, 1)", x.plug(1, 1), 1);
        due.is("plug(0, 6)", x.plug(0, 6), 1);
        due.is("plug(2, 31)", x.plug(2, 31), 1);
    }

    private static void pluggedIsNotAdded() {
        due.says("PLUGGED WATTS (0 to 99) of a LINE are v");
        NightStalls x = lineOf(1, 30, 0);
        due.is("plug 30", x.plug(1, 30), 0);
        due.is("plug 30 again", x.plug(1, 30), 0);
        due.is("PLUGGED", x.lineOf(1, 2), 30);
        due.is("plug 1", x.plug(1, 1), 0);
        due.is("PLUGGED", x.lineOf(1, 2), 1);
        due.is("plug 0", x.plug(1, 0), 0);
        due.is("PLUGGED", x.lineOf(1, 2), 0);
    }

    private static void otherLinesGoOn() {
        due.says("`TRIPS = -5`: A LINE has TRIPPED, has not, or would.");
        for (int line = 0; line <= 2; line++) {
            NightStalls x = new NightStalls();
            x.open(0);
            due.is("plug", x.plug(line, 31), 1);
            for (int other = 0; other <= 2; other++) {
                due.is("TRIPPED", x.lineOf(other, 3), other == line ? 1 : 0);
                due.is("PLUGGED", x.lineOf(other, 2), other == line ? 31 : 0);
                due.is("plug", x.plug(other, 1), other == line ? TRIPS : 0);
                due.is("reset", x.reset(other), other == line ? TRIPS : NONE);
            }
        }
    }

    private static void resetOnceItIsPulled() {
        due.says("It may be RESET if they are not.");
        NightStalls x = lineOf(2, 30, 12);
        x.plug(2, 19);
        due.is("reset", x.reset(2), TRIPS);
        due.is("TRIPPED", x.lineOf(2, 3), 1);
        due.says("(To be RESET what is PLUGGED may be pulled: pull().)");
        due.is("pull", x.pull(2), 19);
        due.is("TRIPPED still", x.lineOf(2, 3), 1);
        due.is("reset", x.reset(2), 1);
        due.is("TRIPPED", x.lineOf(2, 3), 0);
        due.is("PLUGGED", x.lineOf(2, 2), 0);
        due.is("reset again", x.reset(2), NONE);
    }

    private static void resetAndTripAgain() {
        due.says("A LINE is RESET: 1.");
        NightStalls x = lineOf(0, 30, 12);
        for (int i = 0; i < 5; i++) {
            due.is("plug", x.plug(0, 19), 1);
            due.is("plug", x.plug(0, 1), TRIPS);
            due.is("pull", x.pull(0), 19);
            due.is("plug", x.plug(0, 1), TRIPS);
            due.is("reset", x.reset(0), 1);
            due.is("plug", x.plug(0, 18), 0);
        }
    }

    private static void pullWhetherTrippedOrNot() {
        due.says("Nothing is PLUGGED on a LINE any more (whether it has TRIPPED or not): "
                + "how much was.");
        NightStalls x = lineOf(0, 30, 12);
        due.is("pull of nothing", x.pull(0), 0);
        x.plug(0, 18);
        x.plug(1, 3);
        due.is("pull, not TRIPPED", x.pull(0), 18);
        due.is("PLUGGED", x.lineOf(0, 2), 0);
        due.is("TRIPPED", x.lineOf(0, 3), 0);
        due.is("pull again", x.pull(0), 0);
        x.plug(0, 99);
        due.is("pull, TRIPPED", x.pull(0), 99);
        due.is("PLUGGED", x.lineOf(0, 2), 0);
        due.is("TRIPPED", x.lineOf(0, 3), 1);
        due.is("pull again", x.pull(0), 0);
        due.is("the other LINE", x.lineOf(1, 2), 3);
    }

    private static void lastOf512Calls() {
        due.says("An object is used for at most 512 calls after it has been made");
        NightStalls x = new NightStalls();
        x.open(0);
        for (int call = 2; call < 512; call++) {
            due.is("go(50)", x.go(50), 0);
        }
        due.is("the 512th call", x.shut(), 510 * 50);
        NightStalls y = new NightStalls();
        y.stall(0, 0, 0, 1, 1, 0);
        for (int i = 0; i < 255; i++) {
            due.is("open", y.open(0), 1);
            due.is("shut", y.shut(), 0);
        }
        due.is("the 512th call", y.many(2), 1);
    }
}
