/** Promises 9 and 10: THE LAYOUT for a NIGHT and what it is worth. */
public final class LayoutTest {
    private static final Due due = new Due();
    private static final int NOTHING = NightStalls.NONE;

    public static void main(String[] args) {
        wrongNumbers();
        papers();
        lanes();
        apart();
        smells();
        lines();
        rentAheadOfNumber();
        numberAheadOfOrder();
        orderOfEquals();
        eachCallForItself();
        whileOpen();
        due.end();
    }

    private static NightStalls streetOf(int... rents) {
        NightStalls x = new NightStalls();
        x.street(rents.length);
        for (int place = 0; place < rents.length; place++) {
            x.place(place, 0, rents[place]);
        }
        return x;
    }

    /** Holds a LAYOUT against the PLACES that are due, and its worth. */
    private static void laid(NightStalls x, int night, int worth, int... places) {
        due.promise("10 worth");
        due.is("worth(" + night + ")", x.worth(night), worth);
        due.promise("9 layout");
        for (int stall = 0; stall < places.length; stall++) {
            due.is("layout(" + night + ", " + stall + ")", x.layout(night, stall), places[stall]);
        }
    }

    private static void wrongNumbers() {
        NightStalls x = streetOf(5);
        x.stall(0, 0, 0, 1, 1, 99);
        due.promise("9 layout");
        due.is("layout(0, 0)", x.layout(0, 0), 0);
        due.is("layout(99, 0)", x.layout(99, 0), 0);
        due.is("layout(100, 0)", x.layout(100, 0), NightStalls.NUMBER);
        due.is("layout(-1, 0)", x.layout(-1, 0), NightStalls.NUMBER);
        due.is("layout(0, 1)", x.layout(0, 1), NightStalls.NUMBER);
        due.is("layout(0, -1)", x.layout(0, -1), NightStalls.NUMBER);
        due.is("layout(MIN, MAX)", x.layout(Integer.MIN_VALUE, Integer.MAX_VALUE),
                NightStalls.NUMBER);
        due.promise("10 worth");
        due.is("worth(99)", x.worth(99), 5);
        due.is("worth(100)", x.worth(100), NightStalls.NUMBER);
        due.is("worth(-1)", x.worth(-1), NightStalls.NUMBER);
        due.is("worth(MAX)", x.worth(Integer.MAX_VALUE), NightStalls.NUMBER);
    }

    private static void papers() {
        NightStalls x = streetOf(9, 4);
        x.stall(0, 0, 0, 1, 1, 3);
        x.stall(1, 0, 0, 1, 1, 4);
        laid(x, 3, 13, 0, 1);
        laid(x, 4, 9, NOTHING, 0);
        laid(x, 5, 0, NOTHING, NOTHING);
        x.change(0, 5, 0);
        laid(x, 0, 13, 0, 1);
        laid(x, 1, 9, NOTHING, 0);
    }

    private static void lanes() {
        NightStalls x = streetOf(9, 99, 4);
        x.stall(0, 0, 0, 1, 1, 9);
        laid(x, 0, 99, 1);
        x.place(1, 2, 1);
        laid(x, 0, 9, 0);
        x.place(0, 2, 1);
        laid(x, 0, 4, 2);
        x.place(2, 2, 1);
        laid(x, 0, 0, NOTHING);
        x.place(1, 2, 0);
        laid(x, 0, 99, 1);
        NightStalls y = streetOf(1, 2, 3, 4, 5, 6, 7, 8);
        for (int stall = 0; stall < 5; stall++) {
            y.stall(stall, 0, 0, 1, 1, 9);
        }
        for (int place = 0; place < 6; place++) {
            y.place(place, 2, 1);
        }
        laid(y, 0, 15, 6, 7, NOTHING, NOTHING, NOTHING);
        y.place(6, 2, 1);
        y.place(7, 2, 1);
        laid(y, 0, 0, NOTHING, NOTHING, NOTHING, NOTHING, NOTHING);
    }

    private static void apart() {
        NightStalls x = streetOf(10, 9, 8, 7, 6);
        x.stall(3, 0, 0, 1, 1, 9);
        x.stall(3, 1, 0, 1, 1, 9);
        laid(x, 0, 18, 0, 2);
        x.rule(0, 0);
        laid(x, 0, 19, 0, 1);
        x.rule(0, 2);
        laid(x, 0, 17, 0, 3);
        x.rule(0, 3);
        laid(x, 0, 16, 0, 4);
        x.change(1, 0, 4);
        laid(x, 0, 19, 0, 1);
    }

    private static void smells() {
        NightStalls x = streetOf(10, 9, 8);
        x.stall(0, 2, 0, 1, 1, 9);
        x.stall(1, 3, 0, 1, 1, 9);
        laid(x, 0, 19, 0, 1);
        x.clash(3, 2, true);
        laid(x, 0, 18, 0, 2);
        x.clash(2, 3, false);
        x.clash(2, 2, true);
        laid(x, 0, 19, 0, 1);
        x.change(1, 1, 2);
        laid(x, 0, 18, 0, 2);
    }

    private static void lines() {
        NightStalls x = streetOf(10, 9, 8);
        x.stall(0, 0, 15, 1, 1, 9);
        x.stall(1, 0, 15, 1, 1, 9);
        laid(x, 0, 19, 0, 1);
        x.limit(0, 29);
        laid(x, 0, 10, 0, NOTHING);
        x.place(2, 1, 2);
        laid(x, 0, 18, 0, 2);
        x.limit(2, 14);
        laid(x, 0, 10, 0, NOTHING);
        x.limit(2, 15);
        x.limit(0, 14);
        laid(x, 0, 8, 2, NOTHING);
        x.change(1, 2, 14);
        laid(x, 0, 18, 2, 0);
        x.limit(0, 0);
        x.limit(2, 0);
        laid(x, 0, 0, NOTHING, NOTHING);
        x.change(1, 2, 0);
        laid(x, 0, 10, NOTHING, 0);
    }

    private static void rentAheadOfNumber() {
        NightStalls x = streetOf(20, 50, 20);
        x.stall(0, 0, 0, 1, 1, 9);
        x.stall(0, 0, 0, 1, 1, 9);
        laid(x, 0, 50, 1, NOTHING);
        x.place(0, 0, 31);
        laid(x, 0, 51, 0, 2);
    }

    private static void numberAheadOfOrder() {
        NightStalls x = streetOf(20, 40, 20);
        x.stall(0, 0, 0, 1, 1, 9);
        x.stall(0, 0, 0, 1, 1, 9);
        laid(x, 0, 40, 0, 2);
        NightStalls y = streetOf(0, 0, 0, 0, 0);
        y.stall(0, 0, 30, 1, 1, 9);
        y.stall(1, 0, 20, 1, 1, 9);
        y.stall(2, 0, 10, 1, 1, 9);
        laid(y, 0, 0, NOTHING, 0, 1);
    }

    private static void orderOfEquals() {
        NightStalls x = streetOf(5, 5, 5);
        x.stall(0, 0, 30, 1, 1, 9);
        x.stall(1, 0, 30, 1, 1, 9);
        laid(x, 0, 5, 0, NOTHING);
        x.place(0, 0, 4);
        laid(x, 0, 5, 1, NOTHING);
        x.place(2, 1, 1);
        laid(x, 0, 10, 1, 2);
        x.change(0, 5, 0);
        laid(x, 1, 5, NOTHING, 1);
    }

    private static void eachCallForItself() {
        NightStalls x = streetOf(7, 6);
        x.stall(0, 0, 0, 1, 1, 3);
        x.stall(1, 0, 0, 1, 1, 9);
        due.promise("9 layout");
        due.is("layout(4, 1)", x.layout(4, 1), 0);
        due.is("layout(3, 1)", x.layout(3, 1), 1);
        x.place(0, 2, 1);
        due.is("layout(3, 0)", x.layout(3, 0), 1);
        due.is("layout(3, 1)", x.layout(3, 1), NOTHING);
        x.street(1);
        due.is("layout(3, 0)", x.layout(3, 0), 0);
        due.promise("10 worth");
        due.is("worth(3)", x.worth(3), 0);
    }

    private static void whileOpen() {
        NightStalls x = streetOf(7, 6);
        x.stall(0, 0, 0, 1, 1, 3);
        x.stall(1, 0, 0, 1, 1, 9);
        x.open(9);
        laid(x, 3, 13, 0, 1);
        laid(x, 9, 7, NOTHING, 0);
        due.is("what stands is not touched", x.many(2), 1);
        due.is("of(0, 6)", x.of(0, 6), NOTHING);
        due.is("of(1, 6)", x.of(1, 6), 0);
    }
}
