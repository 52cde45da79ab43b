/** Promises 23 and 24: all is kept, and comes back. */
public final class KeepTest {
    private static final Due due = new Due();

    public static void main(String[] args) {
        nothingKept();
        streetComesBack();
        nightComesBack();
        latestStays();
        due.end();
    }

    private static void nothingKept() {
        due.promise("24 back");
        NightStalls x = new NightStalls();
        x.street(3);
        due.is("back()", x.back(), NightStalls.NONE);
        due.is("many(0) after a refusal", x.many(0), 3);
        NightStalls y = new NightStalls();
        due.promise("23 keep");
        due.is("keep() of another object", y.keep(), 1);
        due.is("back()", x.back(), NightStalls.NONE);
    }

    private static void streetComesBack() {
        NightStalls x = new NightStalls();
        x.street(3);
        x.place(1, 0, 5);
        x.place(1, 1, 2);
        x.place(2, 2, 1);
        x.limit(2, 7);
        x.clash(0, 1, true);
        x.rule(0, 2);
        x.rule(1, 20);
        x.stall(1, 2, 3, 4, 5, 6);
        due.promise("23 keep");
        due.is("keep()", x.keep(), 1);
        x.change(0, 2, 9);
        x.stall(0, 0, 0, 1, 1, 1);
        x.rule(0, 0);
        x.rule(1, 0);
        x.clash(0, 1, false);
        x.clash(2, 2, true);
        x.limit(2, 8);
        x.limit(0, 8);
        x.street(8);
        due.promise("24 back");
        due.is("back()", x.back(), 1);
        due.is("many(0)", x.many(0), 3);
        due.is("many(1)", x.many(1), 1);
        due.is("many(11)", x.many(11), 1);
        due.is("place(1, 0, 5)", x.place(1, 0, 5), 5);
        due.is("place(1, 1, 2)", x.place(1, 1, 2), 2);
        due.is("place(2, 2, 1)", x.place(2, 2, 1), 1);
        due.is("lineOf(2, 0)", x.lineOf(2, 0), 7);
        due.is("lineOf(0, 0)", x.lineOf(0, 0), 30);
        due.is("clash(1, 0, true)", x.clash(1, 0, true), 0);
        due.is("clash(2, 2, false)", x.clash(2, 2, false), 0);
        due.is("rule(0, 2)", x.rule(0, 2), 2);
        due.is("rule(1, 20)", x.rule(1, 20), 20);
        for (int what = 0; what < 6; what++) {
            due.is("of(0, " + what + ")", x.of(0, what), what + 1);
        }
        due.is("worth(6)", x.worth(6), 5);
    }

    private static NightStalls nightUnderWay() {
        NightStalls x = new NightStalls();
        x.street(2);
        x.place(1, 1, 1);
        x.stall(0, 0, 5, 2, 10, 9);
        x.stall(1, 0, 5, 9, 20, 9);
        x.open(0);
        x.guest(0, 9);
        x.guest(0, 9);
        x.guest(0, 9);
        x.guest(1, 9);
        x.go(4);
        x.plug(1, 99);
        x.plug(2, 4);
        return x;
    }

    private static void held(NightStalls x) {
        int[] all = {2, 2, 2, 1, 4, 4, 1, 0, 0, 10, 1, 0};
        for (int what = 0; what < all.length; what++) {
            due.is("many(" + what + ")", x.many(what), all[what]);
        }
        int[][] guests = {
            {3, NightStalls.NONE, 9, 0, 0}, {2, 0, 7, 0, 0}, {1, 0, 6, 0, 0}, {2, 1, 9, 1, 1}};
        for (int guest = 0; guest < guests.length; guest++) {
            for (int what = 0; what < 5; what++) {
                due.is("guestOf(" + guest + ", " + what + ")", x.guestOf(guest, what),
                        guests[guest][what]);
            }
        }
        int[][] stalls = {{0, 1, 10, 2, 2, 1}, {1, 0, 0, 1, 8, 0}};
        for (int stall = 0; stall < stalls.length; stall++) {
            for (int what = 6; what < 12; what++) {
                due.is("of(" + stall + ", " + what + ")", x.of(stall, what),
                        stalls[stall][what - 6]);
            }
        }
        int[][] lines = {{30, 5, 0, 0}, {30, 5, 99, 1}, {30, 0, 4, 0}};
        for (int line = 0; line < lines.length; line++) {
            for (int what = 0; what < 4; what++) {
                due.is("lineOf(" + line + ", " + what + ")", x.lineOf(line, what),
                        lines[line][what]);
            }
        }
        due.is("suspects(0, 3, 3)", x.suspects(0, 3, 3), 1);
        due.is("suspects(0, 4, 99)", x.suspects(0, 4, 99), 0);
    }

    private static void nightComesBack() {
        NightStalls x = nightUnderWay();
        due.promise("23 keep");
        due.is("keep()", x.keep(), 1);
        held(x);
        x.pull(1);
        x.reset(1);
        x.pull(2);
        x.guest(0, 1);
        x.go(50);
        x.shut();
        due.promise("24 back");
        due.is("back() from a shut NIGHT", x.back(), 1);
        held(x);
        x.shut();
        x.street(1);
        due.is("back() from another street", x.back(), 1);
        held(x);
        x.shut();
        x.change(0, 0, 5);
        x.open(3);
        for (int i = 0; i < 20; i++) {
            x.guest(5, 1 + i);
        }
        x.go(30);
        due.is("back() from another NIGHT", x.back(), 1);
        held(x);
        due.is("go(2)", x.go(2), 1);
        due.is("back() while OPEN", x.back(), 1);
        held(x);
        due.is("go(2) once more", x.go(2), 1);
        due.is("street while OPEN", x.street(1), NightStalls.STATE);
    }

    private static void latestStays() {
        due.promise("24 back");
        NightStalls x = new NightStalls();
        x.street(2);
        x.keep();
        x.street(3);
        x.keep();
        x.street(4);
        due.is("back()", x.back(), 1);
        due.is("many(0)", x.many(0), 3);
        x.street(5);
        due.is("back() again", x.back(), 1);
        due.is("many(0)", x.many(0), 3);
        x.open(0);
        x.keep();
        x.shut();
        x.back();
        due.is("a NIGHT that is OPEN is kept", x.many(3), 1);
    }
}
