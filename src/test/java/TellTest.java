/** Promises 18 to 22: what is told of STALLS, GUESTS, LINES and all. */
public final class TellTest {
    private static final Due due = new Due();
    private static final int LOW = Integer.MIN_VALUE;
    private static final int HIGH = Integer.MAX_VALUE;

    public static void main(String[] args) {
        of();
        bill();
        billAfterTheNight();
        guestOf();
        suspects();
        suspectsOfTwo();
        lineOf();
        many();
        due.end();
    }

    /** A NIGHT with two STALLS of one DISH on PLACES 0 and 2, a LANE on 3, and one without. */
    private static NightStalls busyNight() {
        NightStalls x = new NightStalls();
        x.street(4);
        x.place(0, 0, 50);
        x.place(2, 0, 40);
        x.place(2, 1, 1);
        x.place(3, 2, 1);
        x.stall(1, 0, 12, 2, 19, 99);
        x.stall(1, 0, 13, 3, 17, 99);
        x.stall(2, 0, 30, 3, 17, 0);
        x.open(1);
        for (int i = 0; i < 5; i++) {
            x.guest(1, 9);
        }
        x.guest(3, 9);
        return x;
    }

    private static void of() {
        due.promise("18 of");
        NightStalls x = busyNight();
        int[] traits = {1, 0, 13, 3, 17, 99};
        for (int what = 0; what < traits.length; what++) {
            due.is("of(1, " + what + ")", x.of(1, what), traits[what]);
        }
        due.is("of(0, 6)", x.of(0, 6), 0);
        due.is("of(1, 6)", x.of(1, 6), 2);
        due.is("of(2, 6)", x.of(2, 6), NightStalls.NONE);
        x.go(1);
        due.is("of(0, 9)", x.of(0, 9), 3);
        due.is("of(0, 10)", x.of(0, 10), 0);
        x.go(1);
        due.is("who WALKS there isn't there", x.of(1, 9), 0);
        due.is("of(0, 10)", x.of(0, 10), 2);
        x.go(2);
        due.is("of(0, 7)", x.of(0, 7), 1);
        due.is("of(0, 8)", x.of(0, 8), 19);
        due.is("of(0, 9)", x.of(0, 9), 2);
        due.is("of(0, 10)", x.of(0, 10), 2);
        due.is("of(1, 7)", x.of(1, 7), 0);
        due.is("of(1, 9)", x.of(1, 9), 2);
        due.is("of(1, 10)", x.of(1, 10), 3);
        for (int what = 7; what <= 11; what++) {
            due.is("of(2, " + what + ")", x.of(2, what), 0);
        }
        due.is("of(3, 0)", x.of(3, 0), NightStalls.NUMBER);
        due.is("of(-1, 0)", x.of(-1, 0), NightStalls.NUMBER);
        due.is("of(3, 6)", x.of(3, 6), NightStalls.NUMBER);
        due.is("of(LOW, 6)", x.of(LOW, 6), NightStalls.NUMBER);
        due.is("of(HIGH, 6)", x.of(HIGH, 6), NightStalls.NUMBER);
        due.is("of(0, 12)", x.of(0, 12), NightStalls.NUMBER);
        due.is("of(0, -1)", x.of(0, -1), NightStalls.NUMBER);
        due.is("of(0, LOW)", x.of(0, LOW), NightStalls.NUMBER);
        due.is("of(0, HIGH)", x.of(0, HIGH), NightStalls.NUMBER);
    }

    private static void bill() {
        due.promise("18 of");
        NightStalls x = busyNight();
        due.is("of(0, 11) without SALES", x.of(0, 11), 50);
        due.is("go(20)", x.go(20), 5);
        due.is("of(0, 8)", x.of(0, 8), 57);
        due.is("of(1, 8)", x.of(1, 8), 34);
        due.is("of(0, 11)", x.of(0, 11), 55);
        due.is("of(1, 11)", x.of(1, 11), 43);
        due.is("of(2, 11)", x.of(2, 11), 0);
        due.promise("22 many");
        due.is("many(9)", x.many(9), 91);
        due.is("many(10): the rest is away in each", x.many(10), 98);
    }

    private static void billAfterTheNight() {
        due.promise("18 of");
        NightStalls x = busyNight();
        x.go(20);
        x.shut();
        x.rule(1, 50);
        due.is("of(0, 11)", x.of(0, 11), 78);
        x.rule(1, 0);
        due.is("of(0, 11)", x.of(0, 11), 50);
        x.place(0, 0, 3);
        due.is("of(0, 11)", x.of(0, 11), 3);
        x.change(0, 4, 1);
        due.is("of(0, 8)", x.of(0, 8), 57);
        x.stall(0, 0, 0, 1, 1, 99);
        due.is("of(3, 6)", x.of(3, 6), NightStalls.NONE);
        due.is("of(3, 11)", x.of(3, 11), 0);
    }

    /** Holds what is told of a GUEST against its state, PLACE, PATIENCE, DISH and STALL. */
    private static void told(NightStalls x, int guest, int... facts) {
        for (int what = 0; what < facts.length; what++) {
            due.is("guestOf(" + guest + ", " + what + ")", x.guestOf(guest, what), facts[what]);
        }
    }

    private static void guestOf() {
        due.promise("19 guestOf");
        int none = NightStalls.NONE;
        NightStalls x = busyNight();
        told(x, 5, 0, 0, 9, 3, none);
        x.guest(1, 1);
        x.go(3);
        told(x, 0, 2, 0, 9, 1, 0);
        told(x, 1, 1, 0, 7, 1, 0);
        told(x, 3, 1, 2, 9, 1, 1);
        told(x, 5, 0, 3, 9, 3, none);
        told(x, 6, 1, 2, 1, 1, 1);
        x.go(1);
        told(x, 0, 3, none, 9, 1, 0);
        told(x, 1, 2, 0, 7, 1, 0);
        told(x, 3, 2, 2, 9, 1, 1);
        told(x, 5, 5, none, 9, 3, none);
        told(x, 6, 4, none, 0, 1, none);
        due.is("guestOf(7, 0)", x.guestOf(7, 0), NightStalls.NUMBER);
        due.is("guestOf(-1, 0)", x.guestOf(-1, 0), NightStalls.NUMBER);
        due.is("guestOf(20, 0)", x.guestOf(20, 0), NightStalls.NUMBER);
        due.is("guestOf(HIGH, 0)", x.guestOf(HIGH, 0), NightStalls.NUMBER);
        due.is("guestOf(LOW, 0)", x.guestOf(LOW, 0), NightStalls.NUMBER);
        due.is("guestOf(0, 5)", x.guestOf(0, 5), NightStalls.NUMBER);
        due.is("guestOf(0, -1)", x.guestOf(0, -1), NightStalls.NUMBER);
        due.is("guestOf(0, HIGH)", x.guestOf(0, HIGH), NightStalls.NUMBER);
    }

    private static void suspects() {
        due.promise("20 suspects");
        NightStalls x = busyNight();
        due.is("suspects(0, 0, 0)", x.suspects(0, 0, 0), 0);
        due.is("suspects(5, 0, HIGH)", x.suspects(5, 0, HIGH), 0);
        due.is("suspects(6, 0, 0)", x.suspects(6, 0, 0), NightStalls.NUMBER);
        due.is("suspects(-1, 0, 0)", x.suspects(-1, 0, 0), NightStalls.NUMBER);
        due.is("suspects(0, -1, 0)", x.suspects(0, -1, 0), NightStalls.NUMBER);
        due.is("suspects(0, LOW, HIGH)", x.suspects(0, LOW, HIGH), NightStalls.NUMBER);
        due.is("suspects(0, 1, 0)", x.suspects(0, 1, 0), NightStalls.NUMBER);
        due.is("suspects(0, 0, LOW)", x.suspects(0, 0, LOW), NightStalls.NUMBER);
        due.is("suspects(HIGH, 0, 0)", x.suspects(HIGH, 0, 0), NightStalls.NUMBER);
    }

    private static void suspectsOfTwo() {
        due.promise("20 suspects");
        NightStalls x = busyNight();
        x.go(20);
        // STALL 0 sells in TICKS 3, 5 and 7, STALL 1 in 6 and 9.
        due.is("suspects(1, 0, 2)", x.suspects(1, 0, 2), 0);
        due.is("suspects(1, 3, 3)", x.suspects(1, 3, 3), 1);
        due.is("suspects(1, 4, 4)", x.suspects(1, 4, 4), 0);
        due.is("suspects(1, 4, 5)", x.suspects(1, 4, 5), 1);
        due.is("suspects(1, 6, 6)", x.suspects(1, 6, 6), 2);
        due.is("suspects(1, 6, 7)", x.suspects(1, 6, 7), 3);
        due.is("suspects(1, 7, 8)", x.suspects(1, 7, 8), 1);
        due.is("suspects(1, 8, HIGH)", x.suspects(1, 8, HIGH), 2);
        due.is("suspects(1, 10, 99)", x.suspects(1, 10, 99), 0);
        due.is("suspects(1, 0, 99)", x.suspects(1, 0, 99), 3);
        due.is("suspects(2, 0, 99)", x.suspects(2, 0, 99), 0);
        x.shut();
        x.change(0, 0, 2);
        due.is("who sold it then", x.suspects(1, 0, 99), 3);
        due.is("who sells it now", x.suspects(2, 0, 99), 0);
    }

    private static void lineOf() {
        due.promise("21 lineOf");
        NightStalls x = busyNight();
        due.is("lineOf(0, 0)", x.lineOf(0, 0), 30);
        due.is("lineOf(0, 1)", x.lineOf(0, 1), 12);
        due.is("lineOf(1, 1)", x.lineOf(1, 1), 13);
        due.is("lineOf(2, 1)", x.lineOf(2, 1), 0);
        x.plug(1, 18);
        x.plug(0, 18);
        due.is("lineOf(1, 2)", x.lineOf(1, 2), 18);
        due.is("lineOf(1, 3)", x.lineOf(1, 3), 1);
        due.is("lineOf(0, 3)", x.lineOf(0, 3), 0);
        due.is("lineOf(2, 2)", x.lineOf(2, 2), 0);
        due.is("lineOf(3, 0)", x.lineOf(3, 0), NightStalls.NUMBER);
        due.is("lineOf(-1, 0)", x.lineOf(-1, 0), NightStalls.NUMBER);
        due.is("lineOf(LOW, 2)", x.lineOf(LOW, 2), NightStalls.NUMBER);
        due.is("lineOf(0, 4)", x.lineOf(0, 4), NightStalls.NUMBER);
        due.is("lineOf(0, -1)", x.lineOf(0, -1), NightStalls.NUMBER);
        due.is("lineOf(0, HIGH)", x.lineOf(0, HIGH), NightStalls.NUMBER);
        x.shut();
        x.limit(1, 44);
        due.is("lineOf(1, 0)", x.lineOf(1, 0), 44);
        due.is("lineOf(1, 3) when shut", x.lineOf(1, 3), 1);
    }

    private static void many() {
        due.promise("22 many");
        NightStalls x = busyNight();
        x.guest(1, 1);
        x.go(20);
        int[] want = {4, 3, 2, 1, 20, 7, 5, 1, 1, 91, 98, 1};
        for (int what = 0; what < want.length; what++) {
            due.is("many(" + what + ")", x.many(what), want[what]);
        }
        x.shut();
        want[3] = 0;
        for (int what = 0; what < want.length; what++) {
            due.is("many(" + what + ") when shut", x.many(what), want[what]);
        }
        due.is("many(12)", x.many(12), NightStalls.NUMBER);
        due.is("many(-1)", x.many(-1), NightStalls.NUMBER);
        due.is("many(LOW)", x.many(LOW), NightStalls.NUMBER);
        due.is("many(HIGH)", x.many(HIGH), NightStalls.NUMBER);
    }
}
