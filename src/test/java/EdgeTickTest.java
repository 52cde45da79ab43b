/** The edges of a TICK: the last TICK to cook, the last PATIENCE, the third GUEST, the last PLACE. */
public final class EdgeTickTest {
    private static final Due due = new Due();
    private static final int NONE = NightStalls.NONE;
    private static final int WALKS = 0;
    private static final int WAITS = 1;
    private static final int COOKED_FOR = 2;
    private static final int FED = 3;
    private static final int ANGRY = 4;
    private static final int GONE = 5;

    public static void main(String[] args) {
        paceLeastToMost();
        saleInThisTick();
        cooksNoMore();
        twoSalesInOneTick();
        trippedCooksNotOn();
        nextInTheSameTick();
        firstOfThem();
        firstOnceTheFirstLeft();
        trippedStartsNothing();
        notInTheTickOfComing();
        lastPatience();
        patienceOfOneIsEnough();
        patienceOfFifty();
        noPatienceLostElsewhere();
        angryAllAtOnce();
        angryLeavesRoom();
        fedLeavesRoom();
        thirdAndFourth();
        cookedForCounts();
        byNumbers();
        fullGoesOnToTheNext();
        behindTheOthers();
        behindTheLast();
        pastALane();
        pastAnotherDish();
        pastATrippedLine();
        noWayBack();
        comesInTheMiddle();
        oneTickMore();
        manyTicksAreSingleOnes();
        due.end();
    }

    /** One PLACE, and a STALL on it of DISH 0 with 10 WATTS, OPEN. */
    private static NightStalls oneStall(int pace) {
        NightStalls x = new NightStalls();
        x.stall(0, 0, 10, pace, 7, 99);
        x.open(0);
        return x;
    }

    /** n PLACES and a STALL of DISH 0 on one of them, OPEN. */
    private static NightStalls stallOn(int n, int place, int pace) {
        NightStalls x = new NightStalls();
        x.street(n);
        x.place(place, 0, 9);
        x.stall(0, 0, 0, pace, 7, 99);
        x.open(0);
        return x;
    }

    private static void come(NightStalls x, int... patiences) {
        for (int patience : patiences) {
            x.guest(0, patience);
        }
    }

    /** Holds what the GUESTS do, from the first one on. */
    private static void states(NightStalls x, int... want) {
        for (int guest = 0; guest < want.length; guest++) {
            due.is("guestOf(" + guest + ", 0)", x.guestOf(guest, 0), want[guest]);
        }
    }

    private static void paceLeastToMost() {
        due.says("COOKS for the first of them: as many TICKS as its PACE.");
        for (int pace = 1; pace <= 9; pace++) {
            NightStalls x = oneStall(pace);
            come(x, 50);
            due.is("go(2)", x.go(2), 0);
            for (int left = pace; left > 0; left--) {
                due.is("left of " + pace, x.of(0, 10), left);
                states(x, COOKED_FOR);
                due.is("SALES", x.go(1), left == 1 ? 1 : 0);
            }
            due.is("none left", x.of(0, 10), 0);
            states(x, FED);
        }
    }

    private static void saleInThisTick() {
        due.says("if none is left, its GUEST is FED (a SALE in this TICK)");
        for (int pace = 1; pace <= 9; pace++) {
            NightStalls x = oneStall(pace);
            come(x, 50);
            due.is("go up to it", x.go(1 + pace), 0);
            due.is("TICK", x.many(4), 1 + pace);
            due.is("go once more", x.go(1), 1);
            due.is("SALES", x.of(0, 7), 1);
            due.is("the TICK before", x.suspects(0, 0, pace), 0);
            due.is("this TICK", x.suspects(0, 1 + pace, 1 + pace), 1);
            due.is("the TICK after", x.suspects(0, 2 + pace, 99), 0);
        }
    }

    private static void cooksNoMore() {
        due.says("and it doesn't COOK any more.");
        NightStalls x = oneStall(1);
        come(x, 50);
        due.is("go(3)", x.go(3), 1);
        due.is("left", x.of(0, 10), 0);
        due.is("GUESTS there", x.of(0, 9), 0);
        due.is("go(50)", x.go(50), 0);
        due.is("SALES", x.of(0, 7), 1);
    }

    private static void twoSalesInOneTick() {
        due.says("(1) each STALL that COOKS, if its LINE has not TRIPPED, has one TICK less to "
                + "cook;");
        NightStalls x = new NightStalls();
        x.street(5);
        for (int dish = 0; dish < 5; dish++) {
            x.stall(dish, 0, 0, 6 - dish, 1 + dish, 99);
        }
        x.open(0);
        for (int dish = 0; dish < 5; dish++) {
            x.guest(dish, 50);
        }
        due.is("go(7): DISH d WAITS in TICK d, is FED in d + 1 + 6 - d", x.go(7), 0);
        due.is("go(1): all at once", x.go(1), 5);
        due.is("suspects of one", x.suspects(3, 7, 7), 8);
        due.is("TOOK", x.many(9), 15);
    }

    private static void trippedCooksNotOn() {
        due.says("(1) each STALL that COOKS, if its LINE has not TRIPPED");
        NightStalls x = oneStall(3);
        come(x, 1);
        x.go(3);
        due.is("left", x.of(0, 10), 2);
        x.plug(0, 21);
        due.is("go(50)", x.go(50), 0);
        due.is("left as before", x.of(0, 10), 2);
        states(x, COOKED_FOR);
        x.pull(0);
        due.is("go(50), pulled but TRIPPED still", x.go(50), 0);
        x.reset(0);
        due.is("go(1)", x.go(1), 0);
        due.is("go(1)", x.go(1), 1);
        due.is("suspects", x.suspects(0, 104, 104), 1);
    }

    private static void nextInTheSameTick() {
        due.says("(2) Each STALL that doesn't COOK");
        for (int pace = 1; pace <= 9; pace++) {
            NightStalls x = oneStall(pace);
            come(x, 50, 50, 50);
            x.go(2 + pace);
            states(x, FED, COOKED_FOR, WAITS);
            due.is("the whole PACE again", x.of(0, 10), pace);
            due.is("the second SALE", x.go(pace), 1);
            states(x, FED, FED, COOKED_FOR);
            due.is("the third SALE", x.go(pace), 1);
        }
    }

    private static void firstOfThem() {
        due.says("COOKS for the first of them");
        NightStalls x = oneStall(2);
        come(x, 50);
        x.go(1);
        come(x, 50);
        x.go(1);
        come(x, 50);
        states(x, COOKED_FOR, WAITS, WALKS);
        x.go(2);
        states(x, FED, COOKED_FOR, WAITS);
        x.go(2);
        states(x, FED, FED, COOKED_FOR);
    }

    private static void firstOnceTheFirstLeft() {
        due.says("with none left it is ANGRY, and leaves.");
        NightStalls x = oneStall(2);
        come(x, 50, 1, 50);
        x.go(2);
        states(x, COOKED_FOR, ANGRY, WAITS);
        due.is("GUESTS there", x.of(0, 9), 2);
        due.is("its PLACE", x.guestOf(1, 1), NONE);
        due.is("its STALL", x.guestOf(1, 4), NONE);
        due.is("its PATIENCE", x.guestOf(1, 2), 0);
        x.go(2);
        states(x, FED, ANGRY, COOKED_FOR);
        x.go(50);
        states(x, FED, ANGRY, FED);
        due.is("its PATIENCE goes no further", x.guestOf(1, 2), 0);
    }

    private static void trippedStartsNothing() {
        due.says("(2) Each STALL that doesn't COOK, its LINE not having TRIPPED, "
                + "with GUESTS that WAIT there");
        NightStalls x = oneStall(1);
        come(x, 50);
        x.go(1);
        x.plug(0, 21);
        due.is("go(3)", x.go(3), 0);
        states(x, WAITS);
        due.is("left", x.of(0, 10), 0);
        due.is("PATIENCE", x.guestOf(0, 2), 47);
        x.pull(0);
        x.reset(0);
        due.is("go(1)", x.go(1), 0);
        states(x, COOKED_FOR);
        due.is("PATIENCE", x.guestOf(0, 2), 47);
        due.is("go(1)", x.go(1), 1);
    }

    private static void notInTheTickOfComing() {
        due.says("In a TICK, in this order:");
        NightStalls x = oneStall(1);
        come(x, 1);
        x.go(1);
        states(x, WAITS);
        due.is("it WAITS only: none COOKS", x.of(0, 10), 0);
        due.is("no PATIENCE is lost", x.guestOf(0, 2), 1);
        due.is("it is there", x.of(0, 9), 1);
    }

    private static void lastPatience() {
        due.says("(3) Each GUEST that still WAITS has PATIENCE one less;");
        for (int pace = 1; pace <= 9; pace++) {
            NightStalls x = oneStall(pace);
            come(x, 1, pace, pace + 1);
            due.is("go to the last PATIENCE but one", x.go(pace), 0);
            due.is("PATIENCE", x.guestOf(1, 2), 1);
            due.is("PATIENCE", x.guestOf(2, 2), 2);
            states(x, COOKED_FOR - (pace == 1 ? 1 : 0), WAITS, WAITS);
            x.go(1);
            states(x, COOKED_FOR, ANGRY, WAITS);
            due.is("one PATIENCE is left", x.guestOf(2, 2), 1);
            due.is("go(1)", x.go(1), 1);
            states(x, FED, ANGRY, COOKED_FOR);
            due.is("it is not lost any more", x.guestOf(2, 2), 1);
        }
    }

    private static void patienceOfOneIsEnough() {
        due.says("a PATIENCE (1 to 50)");
        NightStalls x = oneStall(9);
        come(x, 1);
        due.is("go(11)", x.go(11), 1);
        states(x, FED);
        due.is("PATIENCE", x.guestOf(0, 2), 1);
        NightStalls y = oneStall(9);
        come(y, 50, 1);
        y.go(1);
        states(y, WAITS, WAITS);
        y.go(1);
        states(y, COOKED_FOR, ANGRY);
    }

    private static void patienceOfFifty() {
        due.says("PATIENCE (1 to 50); it WALKS");
        NightStalls x = oneStall(1);
        come(x, 50, 49);
        x.go(1);
        x.plug(0, 99);
        x.go(49);
        states(x, WAITS, ANGRY);
        due.is("PATIENCE", x.guestOf(0, 2), 1);
        x.go(1);
        states(x, ANGRY, ANGRY);
        due.is("ANGRY", x.many(7), 2);
        due.is("GUESTS there", x.of(0, 9), 0);
    }

    private static void noPatienceLostElsewhere() {
        due.says("Each GUEST that still WAITS");
        NightStalls x = stallOn(8, 7, 9);
        come(x, 1);
        x.guest(5, 1);
        x.go(7);
        states(x, WALKS, WALKS);
        due.is("who WALKS loses none", x.guestOf(0, 2), 1);
        x.go(1);
        states(x, WAITS, GONE);
        due.is("who comes loses none", x.guestOf(0, 2), 1);
        due.is("who is GONE loses none", x.guestOf(1, 2), 1);
        x.go(1);
        states(x, COOKED_FOR, GONE);
        x.plug(0, 99);
        x.go(50);
        states(x, COOKED_FOR, GONE);
        due.is("who is COOKED for loses none", x.guestOf(0, 2), 1);
        x.pull(0);
        x.reset(0);
        due.is("go(50)", x.go(50), 1);
        due.is("who is FED loses none", x.guestOf(0, 2), 1);
    }

    private static void angryAllAtOnce() {
        due.says("has PATIENCE one less; with none left it is ANGRY");
        NightStalls x = oneStall(9);
        come(x, 2, 2, 2);
        x.go(1);
        x.plug(0, 99);
        x.go(1);
        states(x, WAITS, WAITS, WAITS);
        x.go(1);
        states(x, ANGRY, ANGRY, ANGRY);
        due.is("ANGRY", x.many(7), 3);
        due.is("GUESTS there", x.of(0, 9), 0);
    }

    private static void angryLeavesRoom() {
        due.says("it is ANGRY, and leaves.");
        NightStalls x = oneStall(9);
        come(x, 50, 1, 50);
        x.go(1);
        come(x, 50, 50);
        x.go(1);
        states(x, COOKED_FOR, ANGRY, WAITS, WAITS, GONE);
        due.is("GUESTS there", x.of(0, 9), 3);
    }

    private static void fedLeavesRoom() {
        due.says("its GUEST is FED");
        NightStalls x = oneStall(1);
        come(x, 50, 50, 50);
        x.go(2);
        come(x, 50, 50);
        due.is("go(1)", x.go(1), 1);
        states(x, FED, COOKED_FOR, WAITS, WAITS, GONE);
        due.is("GUESTS there", x.of(0, 9), 3);
    }

    private static void thirdAndFourth() {
        due.says("and fewer than 3 GUESTS are there");
        NightStalls x = oneStall(9);
        come(x, 50, 50);
        x.go(1);
        due.is("two", x.of(0, 9), 2);
        come(x, 50);
        x.go(1);
        due.is("the third WAITS", x.of(0, 9), 3);
        come(x, 50);
        x.go(1);
        due.is("the fourth doesn't", x.of(0, 9), 3);
        states(x, COOKED_FOR, WAITS, WAITS, GONE);
        NightStalls y = oneStall(9);
        come(y, 50, 50, 50, 50);
        y.go(1);
        states(y, WAITS, WAITS, WAITS, GONE);
    }

    private static void cookedForCounts() {
        due.says("(WAITING, or being COOKED for)");
        NightStalls x = oneStall(9);
        come(x, 50, 50);
        x.go(2);
        states(x, COOKED_FOR, WAITS);
        come(x, 50, 50);
        x.go(1);
        states(x, COOKED_FOR, WAITS, WAITS, GONE);
    }

    private static void byNumbers() {
        due.says("(4) Each GUEST that WALKS, by numbers");
        NightStalls x = oneStall(9);
        come(x, 50, 50);
        x.go(1);
        come(x, 9, 50, 50);
        x.go(1);
        states(x, COOKED_FOR, WAITS, WAITS, GONE, GONE);
    }

    private static void fullGoesOnToTheNext() {
        due.says("else it goes one PLACE on;");
        NightStalls x = new NightStalls();
        x.street(3);
        x.rule(0, 0);
        x.stall(0, 0, 0, 9, 7, 99);
        x.stall(0, 0, 0, 9, 7, 99);
        x.open(0);
        come(x, 50, 50, 50, 50, 50, 50, 50);
        x.go(1);
        states(x, WAITS, WAITS, WAITS, WALKS, WALKS, WALKS, WALKS);
        due.is("its PLACE", x.guestOf(3, 1), 1);
        x.go(1);
        states(x, COOKED_FOR, WAITS, WAITS, WAITS, WAITS, WAITS, WALKS);
        due.is("its STALL", x.guestOf(5, 4), 1);
        due.is("its PLACE", x.guestOf(6, 1), 2);
        x.go(1);
        states(x, COOKED_FOR, WAITS, WAITS, COOKED_FOR, WAITS, WAITS, GONE);
    }

    private static void behindTheOthers() {
        due.says("it WAITS there, behind the others;");
        NightStalls x = stallOn(2, 1, 1);
        come(x, 50);
        x.go(1);
        come(x, 50);
        x.go(1);
        come(x, 50);
        x.go(1);
        states(x, COOKED_FOR, WAITS, WALKS);
        due.is("go(1)", x.go(1), 1);
        states(x, FED, COOKED_FOR, WAITS);
        due.is("go(1)", x.go(1), 1);
        states(x, FED, FED, COOKED_FOR);
        due.is("go(1)", x.go(1), 1);
        states(x, FED, FED, FED);
    }

    private static void behindTheLast() {
        due.says("behind the last one it is GONE.");
        for (int n = 1; n <= 8; n++) {
            NightStalls x = new NightStalls();
            x.street(n);
            x.open(0);
            come(x, 1);
            for (int place = 0; place < n; place++) {
                states(x, WALKS);
                due.is("its PLACE", x.guestOf(0, 1), place);
                x.go(1);
            }
            states(x, GONE);
            due.is("its PLACE", x.guestOf(0, 1), NONE);
            due.is("its STALL", x.guestOf(0, 4), NONE);
            due.is("GONE", x.many(8), 1);
            x.go(50);
            states(x, GONE);
        }
        NightStalls last = stallOn(8, 7, 1);
        come(last, 1);
        last.go(8);
        states(last, WAITS);
        due.is("a STALL on the last PLACE", last.guestOf(0, 1), 7);
    }

    private static void pastALane() {
        due.says("it goes one PLACE on");
        NightStalls x = new NightStalls();
        x.street(3);
        x.place(0, 2, 1);
        x.place(1, 2, 1);
        x.stall(0, 0, 0, 1, 7, 99);
        x.open(0);
        come(x, 1);
        due.is("at first", x.guestOf(0, 1), 0);
        x.go(1);
        due.is("on a LANE", x.guestOf(0, 1), 1);
        x.go(1);
        due.is("where the STALL is", x.guestOf(0, 1), 2);
        states(x, WALKS);
        x.go(1);
        states(x, WAITS);
    }

    private static void pastAnotherDish() {
        due.says("if a STALL of its DISH stands where it is");
        NightStalls x = new NightStalls();
        x.street(2);
        x.stall(4, 0, 0, 1, 7, 99);
        x.stall(5, 0, 0, 1, 7, 99);
        x.open(0);
        x.guest(5, 9);
        x.guest(4, 9);
        x.guest(3, 9);
        x.go(1);
        states(x, WALKS, WAITS, WALKS);
        x.go(1);
        states(x, WAITS, COOKED_FOR, GONE);
        due.is("its STALL", x.guestOf(0, 4), 1);
    }

    private static void pastATrippedLine() {
        due.says("whose LINE has not TRIPPED, and fewer than 3");
        NightStalls x = oneStall(1);
        x.plug(0, 99);
        come(x, 50);
        x.go(1);
        states(x, GONE);
        x.pull(0);
        come(x, 50);
        x.go(1);
        states(x, GONE, GONE);
        x.reset(0);
        come(x, 50);
        x.go(1);
        states(x, GONE, GONE, WAITS);
        x.plug(1, 99);
        come(x, 50);
        x.go(1);
        states(x, GONE, GONE, COOKED_FOR, WAITS);
    }

    private static void noWayBack() {
        due.says("it WAITS there, behind the others; else it goes one PLACE on");
        NightStalls x = stallOn(3, 0, 1);
        come(x, 50, 50, 50, 50);
        x.go(1);
        states(x, WAITS, WAITS, WAITS, WALKS);
        due.is("go(1)", x.go(1), 0);
        due.is("go(1): there is room now", x.go(1), 1);
        due.is("but it is past it", x.guestOf(3, 0), GONE);
        due.is("GUESTS there", x.of(0, 9), 2);
    }

    private static void comesInTheMiddle() {
        due.says("it WALKS, at PLACE 0 at first.");
        NightStalls x = stallOn(4, 3, 1);
        x.go(50);
        come(x, 7);
        states(x, WALKS);
        due.is("its PLACE", x.guestOf(0, 1), 0);
        x.go(2);
        come(x, 7);
        due.is("its PLACE", x.guestOf(0, 1), 2);
        due.is("the PLACE of the next", x.guestOf(1, 1), 0);
        x.go(1);
        due.is("its PLACE", x.guestOf(0, 1), 3);
        due.is("the PLACE of the next", x.guestOf(1, 1), 1);
    }

    private static void oneTickMore() {
        due.says("Then the TICK is one more.");
        NightStalls x = new NightStalls();
        x.open(0);
        for (int tick = 0; tick < 60; tick++) {
            due.is("TICK", x.many(4), tick);
            x.go(1);
        }
        x.go(50);
        due.is("TICK", x.many(4), 110);
        due.is("shut", x.shut(), 110);
    }

    private static void manyTicksAreSingleOnes() {
        due.says("n TICKS (1 to 50): how many SALES there were in these.");
        for (int n = 1; n <= 50; n++) {
            NightStalls x = Scene.FULL_OF_GUESTS.make();
            NightStalls y = Scene.FULL_OF_GUESTS.make();
            int sales = 0;
            for (int i = 0; i < n; i++) {
                sales += y.go(1);
            }
            due.is("go(" + n + ")", x.go(n), sales);
            due.same("as many times go(1)", Tell.NOW.of(x), Tell.NOW.of(y));
        }
    }
}
