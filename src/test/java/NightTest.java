/** Promises 11 to 17: a NIGHT opens and is shut, GUESTS come, TICKS pass, LINES trip. */
public final class NightTest {
    private static final Due due = new Due();
    private static final int WALKS = 0;
    private static final int WAITS = 1;
    private static final int COOKED_FOR = 2;
    private static final int FED = 3;
    private static final int ANGRY = 4;
    private static final int GONE = 5;

    public static void main(String[] args) {
        open();
        openAnew();
        shut();
        shutStaysTold();
        guest();
        goNumbers();
        goSells();
        goNextInTheSameTick();
        goPatience();
        goThreeAtAStall();
        goFreedInTheSameTick();
        goWalks();
        goTripped();
        plug();
        reset();
        pull();
        due.end();
    }

    /** One PLACE, and a STALL on it of DISH 0 with 10 WATTS and PRICE 7. */
    private static NightStalls oneStall(int pace) {
        NightStalls x = new NightStalls();
        x.stall(0, 0, 10, pace, 7, 99);
        return x;
    }

    private static void state(NightStalls x, int guest, int want) {
        due.is("guestOf(" + guest + ", 0)", x.guestOf(guest, 0), want);
    }

    private static void open() {
        due.promise("11 open");
        NightStalls x = new NightStalls();
        x.street(3);
        x.place(1, 0, 9);
        x.stall(0, 0, 0, 1, 1, 5);
        x.stall(1, 0, 0, 1, 1, 6);
        due.is("open(-1)", x.open(-1), NightStalls.NUMBER);
        due.is("open(100)", x.open(100), NightStalls.NUMBER);
        due.is("open(MIN)", x.open(Integer.MIN_VALUE), NightStalls.NUMBER);
        due.is("many(3) after refusals", x.many(3), 0);
        due.is("open(5)", x.open(5), 2);
        due.is("of(0, 6)", x.of(0, 6), 0);
        due.is("of(1, 6)", x.of(1, 6), 1);
        due.is("many(3)", x.many(3), 1);
        due.is("open(6) while OPEN", x.open(6), NightStalls.STATE);
        due.is("open(100) while OPEN", x.open(100), NightStalls.STATE);
        due.is("many(2)", x.many(2), 2);
        x.shut();
        due.is("open(6)", x.open(6), 1);
        due.is("of(0, 6)", x.of(0, 6), NightStalls.NONE);
        due.is("of(1, 6)", x.of(1, 6), 1);
        x.shut();
        due.is("open(99)", x.open(99), 0);
        x.shut();
        due.is("open(0)", x.open(0), 2);
    }

    private static void openAnew() {
        due.promise("11 open");
        NightStalls x = oneStall(1);
        x.open(0);
        x.guest(0, 5);
        x.guest(0, 5);
        x.go(3);
        x.plug(0, 30);
        x.plug(1, 20);
        x.shut();
        due.is("open(1)", x.open(1), 1);
        due.is("many(4)", x.many(4), 0);
        due.is("many(5)", x.many(5), 0);
        due.is("many(6)", x.many(6), 0);
        due.is("many(9)", x.many(9), 0);
        due.is("of(0, 7)", x.of(0, 7), 0);
        due.is("of(0, 8)", x.of(0, 8), 0);
        due.is("of(0, 9)", x.of(0, 9), 0);
        due.is("of(0, 10)", x.of(0, 10), 0);
        due.is("lineOf(0, 2)", x.lineOf(0, 2), 0);
        due.is("lineOf(0, 3)", x.lineOf(0, 3), 0);
        due.is("lineOf(1, 2)", x.lineOf(1, 2), 0);
        due.is("suspects(0, 0, 9)", x.suspects(0, 0, 9), 0);
        due.is("guestOf(0, 0)", x.guestOf(0, 0), NightStalls.NUMBER);
        due.is("guest(0, 5)", x.guest(0, 5), 0);
        state(x, 0, WALKS);
        due.is("guestOf(0, 1)", x.guestOf(0, 1), 0);
    }

    private static void shut() {
        due.promise("12 shut");
        NightStalls x = oneStall(1);
        due.is("shut() before a NIGHT", x.shut(), NightStalls.STATE);
        x.open(0);
        due.is("shut() at once", x.shut(), 0);
        due.is("shut() again", x.shut(), NightStalls.STATE);
        x.open(0);
        x.go(50);
        x.go(2);
        due.is("shut()", x.shut(), 52);
        due.is("many(3)", x.many(3), 0);
    }

    private static void shutStaysTold() {
        due.promise("12 shut");
        NightStalls x = oneStall(2);
        x.place(0, 0, 40);
        x.open(0);
        for (int i = 0; i < 3; i++) {
            x.guest(0, 9);
        }
        x.go(5);
        x.plug(0, 21);
        x.plug(1, 3);
        x.shut();
        x.change(0, 4, 20);
        x.change(0, 0, 5);
        due.is("of(0, 6)", x.of(0, 6), 0);
        due.is("of(0, 7)", x.of(0, 7), 1);
        due.is("of(0, 8)", x.of(0, 8), 7);
        due.is("of(0, 9)", x.of(0, 9), 2);
        due.is("of(0, 10)", x.of(0, 10), 1);
        due.is("many(4)", x.many(4), 5);
        due.is("many(5)", x.many(5), 3);
        state(x, 0, FED);
        state(x, 1, COOKED_FOR);
        state(x, 2, WAITS);
        due.is("suspects by the DISH sold then", x.suspects(0, 0, 9), 1);
        due.is("suspects of the DISH of now", x.suspects(5, 0, 9), 0);
        due.is("lineOf(0, 3)", x.lineOf(0, 3), 1);
        due.is("lineOf(1, 2)", x.lineOf(1, 2), 3);
        due.is("go(1)", x.go(1), NightStalls.STATE);
    }

    private static void guest() {
        due.promise("13 guest");
        NightStalls x = oneStall(1);
        due.is("guest before a NIGHT", x.guest(0, 1), NightStalls.STATE);
        due.is("guest(9, 0) before a NIGHT", x.guest(9, 0), NightStalls.STATE);
        x.open(0);
        due.is("guest(-1, 1)", x.guest(-1, 1), NightStalls.NUMBER);
        due.is("guest(6, 1)", x.guest(6, 1), NightStalls.NUMBER);
        due.is("guest(0, 0)", x.guest(0, 0), NightStalls.NUMBER);
        due.is("guest(0, 51)", x.guest(0, 51), NightStalls.NUMBER);
        due.is("guest(MAX, MIN)", x.guest(Integer.MAX_VALUE, Integer.MIN_VALUE),
                NightStalls.NUMBER);
        due.is("many(5)", x.many(5), 0);
        due.is("guest(5, 50)", x.guest(5, 50), 0);
        due.is("guest(0, 1)", x.guest(0, 1), 1);
        state(x, 0, WALKS);
        due.is("guestOf(0, 1)", x.guestOf(0, 1), 0);
        due.is("guestOf(0, 2)", x.guestOf(0, 2), 50);
        due.is("guestOf(0, 3)", x.guestOf(0, 3), 5);
        due.is("guestOf(0, 4)", x.guestOf(0, 4), NightStalls.NONE);
        x.go(9);
        for (int i = 2; i < 20; i++) {
            due.is("guest " + i, x.guest(1, 5), i);
        }
        due.is("guest beyond 20", x.guest(1, 5), NightStalls.FULL);
        due.is("a wrong guest beyond 20", x.guest(1, 0), NightStalls.NUMBER);
        due.is("many(5)", x.many(5), 20);
        x.shut();
        due.is("guest when shut", x.guest(1, 5), NightStalls.STATE);
    }

    private static void goNumbers() {
        due.promise("14 go");
        NightStalls x = oneStall(1);
        due.is("go(1) before a NIGHT", x.go(1), NightStalls.STATE);
        due.is("go(0) before a NIGHT", x.go(0), NightStalls.STATE);
        x.open(0);
        due.is("go(0)", x.go(0), NightStalls.NUMBER);
        due.is("go(-1)", x.go(-1), NightStalls.NUMBER);
        due.is("go(51)", x.go(51), NightStalls.NUMBER);
        due.is("go(MAX)", x.go(Integer.MAX_VALUE), NightStalls.NUMBER);
        due.is("many(4)", x.many(4), 0);
        due.is("go(1)", x.go(1), 0);
        due.is("many(4)", x.many(4), 1);
        due.is("go(50)", x.go(50), 0);
        due.is("many(4)", x.many(4), 51);
    }

    private static void goSells() {
        due.promise("14 go");
        NightStalls x = oneStall(2);
        x.open(0);
        x.guest(0, 50);
        due.is("TICK 0: it WAITS", x.go(1), 0);
        state(x, 0, WAITS);
        due.is("guestOf(0, 2)", x.guestOf(0, 2), 50);
        due.is("TICK 1: it is COOKED for", x.go(1), 0);
        state(x, 0, COOKED_FOR);
        due.is("of(0, 10)", x.of(0, 10), 2);
        due.is("TICK 2", x.go(1), 0);
        due.is("of(0, 10)", x.of(0, 10), 1);
        due.is("TICK 3: a SALE", x.go(1), 1);
        state(x, 0, FED);
        due.is("of(0, 10)", x.of(0, 10), 0);
        due.is("suspects(0, 3, 3)", x.suspects(0, 3, 3), 1);
        due.is("suspects(0, 0, 2)", x.suspects(0, 0, 2), 0);
        due.is("guestOf(0, 2)", x.guestOf(0, 2), 50);
        due.is("go(50)", x.go(50), 0);
    }

    private static void goNextInTheSameTick() {
        due.promise("14 go");
        NightStalls x = oneStall(1);
        x.open(0);
        x.guest(0, 50);
        x.guest(0, 50);
        x.guest(0, 50);
        due.is("go(2)", x.go(2), 0);
        due.is("go(1)", x.go(1), 1);
        state(x, 0, FED);
        state(x, 1, COOKED_FOR);
        state(x, 2, WAITS);
        due.is("of(0, 10)", x.of(0, 10), 1);
        due.is("go(2)", x.go(2), 2);
        due.is("many(6)", x.many(6), 3);
        NightStalls y = oneStall(1);
        y.open(0);
        y.guest(0, 50);
        y.guest(0, 50);
        due.is("go(4) in one", y.go(4), 2);
    }

    private static void goPatience() {
        due.promise("14 go");
        NightStalls x = oneStall(3);
        x.open(0);
        x.guest(0, 1);
        x.guest(0, 2);
        x.guest(0, 4);
        x.go(1);
        due.is("not in the TICK in which it came", x.guestOf(1, 2), 2);
        x.go(1);
        state(x, 0, COOKED_FOR);
        due.is("none less while COOKED for", x.guestOf(0, 2), 1);
        due.is("guestOf(1, 2)", x.guestOf(1, 2), 1);
        due.is("guestOf(2, 2)", x.guestOf(2, 2), 3);
        x.go(1);
        state(x, 1, ANGRY);
        due.is("guestOf(1, 2)", x.guestOf(1, 2), 0);
        due.is("guestOf(1, 1)", x.guestOf(1, 1), NightStalls.NONE);
        due.is("guestOf(1, 4)", x.guestOf(1, 4), NightStalls.NONE);
        due.is("of(0, 9)", x.of(0, 9), 2);
        due.is("go(2)", x.go(2), 1);
        state(x, 2, COOKED_FOR);
        due.is("the last PATIENCE is enough", x.guestOf(2, 2), 1);
        due.is("go(3)", x.go(3), 1);
        state(x, 2, FED);
        due.is("many(7)", x.many(7), 1);
    }

    private static void goThreeAtAStall() {
        due.promise("14 go");
        NightStalls x = oneStall(9);
        x.open(0);
        for (int i = 0; i < 4; i++) {
            x.guest(0, 50);
        }
        x.go(1);
        due.is("of(0, 9)", x.of(0, 9), 3);
        state(x, 2, WAITS);
        state(x, 3, GONE);
        x.guest(0, 50);
        x.go(1);
        due.is("one COOKED for counts", x.of(0, 9), 3);
        state(x, 4, GONE);
        due.is("many(8)", x.many(8), 2);
    }

    private static void goFreedInTheSameTick() {
        due.promise("14 go");
        NightStalls x = oneStall(1);
        x.open(0);
        for (int i = 0; i < 3; i++) {
            x.guest(0, 50);
        }
        x.go(2);
        x.guest(0, 50);
        due.is("go(1)", x.go(1), 1);
        state(x, 3, WAITS);
        NightStalls y = oneStall(9);
        y.open(0);
        y.guest(0, 50);
        y.guest(0, 1);
        y.guest(0, 50);
        y.go(1);
        y.guest(0, 50);
        y.go(1);
        state(y, 1, ANGRY);
        state(y, 3, WAITS);
        due.is("of(0, 9)", y.of(0, 9), 3);
    }

    private static void goWalks() {
        due.promise("14 go");
        NightStalls x = new NightStalls();
        x.street(4);
        x.place(2, 0, 9);
        x.stall(1, 0, 0, 2, 3, 9);
        x.open(0);
        x.guest(1, 9);
        x.guest(2, 9);
        x.go(2);
        state(x, 0, WALKS);
        due.is("guestOf(0, 1)", x.guestOf(0, 1), 2);
        x.go(1);
        state(x, 0, WAITS);
        due.is("guestOf(0, 1)", x.guestOf(0, 1), 2);
        due.is("guestOf(0, 4)", x.guestOf(0, 4), 0);
        due.is("guestOf(1, 1)", x.guestOf(1, 1), 3);
        x.guest(1, 9);
        x.go(1);
        state(x, 1, GONE);
        due.is("guestOf(1, 1)", x.guestOf(1, 1), NightStalls.NONE);
        due.is("guestOf(1, 2)", x.guestOf(1, 2), 9);
        due.is("guestOf(2, 1)", x.guestOf(2, 1), 1);
        due.is("go(2)", x.go(2), 1);
        state(x, 2, WAITS);
        due.is("go(2)", x.go(2), 0);
        due.is("go(1)", x.go(1), 1);
        due.is("of(0, 8)", x.of(0, 8), 6);
    }

    private static void goTripped() {
        due.promise("14 go");
        NightStalls x = new NightStalls();
        x.street(2);
        x.place(1, 1, 1);
        x.stall(0, 0, 10, 2, 5, 9);
        x.stall(1, 0, 10, 1, 5, 9);
        x.open(0);
        x.guest(0, 50);
        x.guest(0, 3);
        x.guest(1, 50);
        x.go(2);
        state(x, 0, COOKED_FOR);
        due.is("plug(0, 21)", x.plug(0, 21), 1);
        x.guest(0, 50);
        due.is("the other LINE goes on", x.go(2), 1);
        due.is("of(0, 10)", x.of(0, 10), 2);
        state(x, 0, COOKED_FOR);
        state(x, 1, ANGRY);
        state(x, 2, FED);
        state(x, 3, GONE);
        x.pull(0);
        x.go(1);
        due.is("still TRIPPED", x.of(0, 10), 2);
        x.guest(0, 50);
        x.reset(0);
        x.go(1);
        due.is("of(0, 10)", x.of(0, 10), 1);
        state(x, 4, WAITS);
        x.go(1);
        state(x, 0, FED);
        state(x, 4, COOKED_FOR);
        NightStalls y = oneStall(1);
        y.open(0);
        y.guest(0, 9);
        y.go(1);
        y.plug(0, 99);
        y.go(1);
        state(y, 0, WAITS);
        due.is("none starts to COOK", y.of(0, 10), 0);
        due.is("PATIENCE goes on", y.guestOf(0, 2), 8);
    }

    private static void plug() {
        due.promise("15 plug");
        NightStalls x = oneStall(1);
        due.is("plug before a NIGHT", x.plug(0, 1), NightStalls.STATE);
        due.is("plug(9, -1) before a NIGHT", x.plug(9, -1), NightStalls.STATE);
        x.open(0);
        due.is("plug(-1, 1)", x.plug(-1, 1), NightStalls.NUMBER);
        due.is("plug(3, 1)", x.plug(3, 1), NightStalls.NUMBER);
        due.is("plug(0, -1)", x.plug(0, -1), NightStalls.NUMBER);
        due.is("plug(0, 100)", x.plug(0, 100), NightStalls.NUMBER);
        due.is("plug(MIN, MAX)", x.plug(Integer.MIN_VALUE, Integer.MAX_VALUE),
                NightStalls.NUMBER);
        due.is("plug(0, 20)", x.plug(0, 20), 0);
        due.is("lineOf(0, 2)", x.lineOf(0, 2), 20);
        due.is("plug(0, 15) is not added", x.plug(0, 15), 0);
        due.is("lineOf(0, 2)", x.lineOf(0, 2), 15);
        due.is("plug(0, 21)", x.plug(0, 21), 1);
        due.is("lineOf(0, 3)", x.lineOf(0, 3), 1);
        due.is("lineOf(0, 2)", x.lineOf(0, 2), 21);
        due.is("plug(0, 0)", x.plug(0, 0), NightStalls.TRIPS);
        due.is("plug(0, 100)", x.plug(0, 100), NightStalls.NUMBER);
        due.is("lineOf(0, 2)", x.lineOf(0, 2), 21);
        due.is("plug(1, 30)", x.plug(1, 30), 0);
        due.is("plug(2, 99)", x.plug(2, 99), 1);
        due.is("lineOf(1, 3)", x.lineOf(1, 3), 0);
        x.shut();
        due.is("plug when shut", x.plug(1, 1), NightStalls.STATE);
    }

    private static void reset() {
        due.promise("16 reset");
        NightStalls x = oneStall(1);
        due.is("reset before a NIGHT", x.reset(0), NightStalls.STATE);
        due.is("reset(9) before a NIGHT", x.reset(9), NightStalls.STATE);
        x.open(0);
        due.is("reset(-1)", x.reset(-1), NightStalls.NUMBER);
        due.is("reset(3)", x.reset(3), NightStalls.NUMBER);
        due.is("reset(MAX)", x.reset(Integer.MAX_VALUE), NightStalls.NUMBER);
        due.is("reset(0)", x.reset(0), NightStalls.NONE);
        x.plug(0, 21);
        x.plug(1, 31);
        due.is("reset(0)", x.reset(0), NightStalls.TRIPS);
        due.is("lineOf(0, 3)", x.lineOf(0, 3), 1);
        x.pull(0);
        due.is("reset(0)", x.reset(0), 1);
        due.is("lineOf(0, 3)", x.lineOf(0, 3), 0);
        due.is("lineOf(1, 3)", x.lineOf(1, 3), 1);
        due.is("reset(0)", x.reset(0), NightStalls.NONE);
        due.is("plug(0, 20)", x.plug(0, 20), 0);
        x.shut();
        due.is("reset when shut", x.reset(1), NightStalls.STATE);
    }

    private static void pull() {
        due.promise("17 pull");
        NightStalls x = oneStall(1);
        due.is("pull before a NIGHT", x.pull(0), NightStalls.STATE);
        due.is("pull(9) before a NIGHT", x.pull(9), NightStalls.STATE);
        x.open(0);
        due.is("pull(-1)", x.pull(-1), NightStalls.NUMBER);
        due.is("pull(3)", x.pull(3), NightStalls.NUMBER);
        due.is("pull(MIN)", x.pull(Integer.MIN_VALUE), NightStalls.NUMBER);
        due.is("pull(0)", x.pull(0), 0);
        x.plug(0, 5);
        x.plug(1, 7);
        due.is("pull(0)", x.pull(0), 5);
        due.is("pull(0)", x.pull(0), 0);
        due.is("lineOf(1, 2)", x.lineOf(1, 2), 7);
        x.plug(0, 99);
        due.is("pull(0) when TRIPPED", x.pull(0), 99);
        due.is("lineOf(0, 2)", x.lineOf(0, 2), 0);
        due.is("lineOf(0, 3)", x.lineOf(0, 3), 1);
        x.shut();
        due.is("pull when shut", x.pull(1), NightStalls.STATE);
        due.is("lineOf(1, 2)", x.lineOf(1, 2), 7);
    }
}
