/**
 * The bounds of every number that a call takes: the least and the greatest are taken and told,
 * the one below and the one above are refused and change nothing.
 */
public final class EdgeNumbersTest {
    private static final Due due = new Due();
    private static final Twins twins = new Twins(due);
    private static final int HIGH = Integer.MAX_VALUE;
    private static final int NUMBER = NightStalls.NUMBER;

    public static void main(String[] args) {
        places();
        placeNumbers();
        rent();
        line();
        lane();
        limit();
        smells();
        dishes();
        stallNumbers();
        traits();
        apart();
        share();
        nights();
        patience();
        guestNumbers();
        ticks();
        plugged();
        linesByNight();
        ofWhat();
        guestOfWhat();
        suspects();
        lineOfWhat();
        manyWhat();
        due.end();
    }

    private static void places() {
        due.says("THE STREET has PLACES 0 to n - 1 (n 1 to 8; 1 at first), in a row");
        due.is("many(0) at first", new NightStalls().many(0), 1);
        due.is("place(1, 0, 0) at first", new NightStalls().place(1, 0, 0), NUMBER);
        for (int n = 1; n <= 8; n++) {
            NightStalls x = new NightStalls();
            due.is("street(" + n + ")", x.street(n), n);
            due.is("many(0)", x.many(0), n);
            due.is("the first PLACE of " + n, x.place(0, 0, 7), 0);
            due.is("the last PLACE of " + n, x.place(n - 1, 0, 9), n == 1 ? 7 : 0);
            due.is("behind the last PLACE of " + n, x.place(n, 0, 9), NUMBER);
        }
        due.says("there are no GUESTS and SALES any more (TICK 0): n. STATE; NUMBER.");
        for (Scene scene : Scene.NOT_OPEN) {
            twins.outside("street", scene, 1, 8, (x, v) -> x.street(v));
        }
    }

    private static void placeNumbers() {
        due.says("NUMBER: there is no such PLACE, what, or v isn't as told.");
        for (int what = 0; what < 3; what++) {
            int of = what;
            twins.outside("place v, 0, 0", Scene.NEW, 0, 0, (x, v) -> x.place(v, of, 0));
            twins.outside("place v, 0, 1", Scene.DAY, 0, 3, (x, v) -> x.place(v, of, 1));
            twins.idle("place 8", Scene.DAY, x -> x.place(8, of, 1), NUMBER);
        }
        twins.outside("place 3, v, 1", Scene.DAY, 0, 2, (x, v) -> x.place(3, v, 1));
        twins.outside("place 0, v, 0", Scene.SHUT, 0, 2, (x, v) -> x.place(0, v, 0));
        NightStalls x = new NightStalls();
        x.street(8);
        due.is("place(7, 0, 1)", x.place(7, 0, 1), 0);
        due.is("place(7, 2, 1)", x.place(7, 2, 1), 0);
        due.is("place(8, 0, 1)", x.place(8, 0, 1), NUMBER);
    }

    private static void rent() {
        due.says("Each has a RENT (0 to 99), is on a LINE (0 to 2), and may be a LANE "
                + "(0, 0, not at first).");
        NightStalls x = new NightStalls();
        x.street(8);
        x.stall(0, 0, 0, 1, 1, 99);
        for (int place = 0; place < 8; place++) {
            due.is("RENT at first", x.place(place, 0, 0), 0);
            due.is("RENT 99", x.place(place, 0, 99), 0);
            due.is("RENT 99 was", x.place(place, 0, 0), 99);
        }
        due.is("worth of RENT 0", x.worth(0), 0);
        x.place(7, 0, 99);
        due.is("worth of RENT 99", x.worth(0), 99);
        due.is("RENT 0", x.place(7, 0, 0), 99);
        due.is("RENT 0 was", x.place(7, 0, 0), 0);
        twins.outside("RENT", Scene.DAY, 0, 99, (y, v) -> y.place(3, 0, v));
        twins.outside("RENT of PLACE 0", Scene.SHUT, 0, 99, (y, v) -> y.place(0, 0, v));
    }

    private static void line() {
        due.says("Each has a RENT (0 to 99), is on a LINE (0 to 2)");
        for (int line = 0; line <= 2; line++) {
            NightStalls x = new NightStalls();
            x.stall(0, 0, 11, 1, 1, 99);
            due.is("LINE at first", x.place(0, 1, line), 0);
            due.is("LINE was", x.place(0, 1, line), line);
            x.open(0);
            for (int other = 0; other <= 2; other++) {
                due.is("WATTS on LINE " + other, x.lineOf(other, 1), other == line ? 11 : 0);
            }
        }
        twins.outside("LINE", Scene.DAY, 0, 2, (y, v) -> y.place(3, 1, v));
        twins.outside("LINE of PLACE 0", Scene.SHUT, 0, 2, (y, v) -> y.place(0, 1, v));
    }

    private static void lane() {
        due.says("Of a PLACE what = 0 RENT, 1 LINE, 2 LANE (0, 1) becomes v: what it was.");
        NightStalls x = new NightStalls();
        x.street(8);
        due.is("LANES at first", x.many(11), 0);
        for (int place = 0; place < 8; place++) {
            due.is("LANE 1", x.place(place, 2, 1), 0);
            due.is("LANE 1 again", x.place(place, 2, 1), 1);
            due.is("LANES", x.many(11), place + 1);
        }
        for (int place = 0; place < 8; place++) {
            due.is("LANE 0", x.place(place, 2, 0), 1);
            due.is("LANE 0 again", x.place(place, 2, 0), 0);
            due.is("LANES", x.many(11), 7 - place);
        }
        twins.outside("LANE of one that is", Scene.DAY, 0, 1, (y, v) -> y.place(1, 2, v));
        twins.outside("LANE of one that isn't", Scene.DAY, 0, 1, (y, v) -> y.place(0, 2, v));
    }

    private static void limit() {
        due.says("A LINE has a LIMIT (0 to 99; 30 at first).");
        NightStalls x = new NightStalls();
        for (int line = 0; line <= 2; line++) {
            due.is("LIMIT at first", x.lineOf(line, 0), 30);
            due.is("limit 99", x.limit(line, 99), 30);
            due.is("LIMIT 99", x.lineOf(line, 0), 99);
            due.is("limit 0", x.limit(line, 0), 99);
            due.is("LIMIT 0", x.lineOf(line, 0), 0);
            due.is("limit 0 again", x.limit(line, 0), 0);
        }
        due.says("The LIMIT of a LINE: what it was. STATE; NUMBER.");
        for (Scene scene : Scene.NOT_OPEN) {
            twins.outside("limit 2, v", scene, 0, 99, (y, v) -> y.limit(2, v));
            twins.outside("limit v, 5", scene, 0, 2, (y, v) -> y.limit(v, 5));
        }
    }

    private static void smells() {
        due.says("SMELLS are 0 to 3; two (or one with itself) may CLASH.");
        NightStalls x = new NightStalls();
        for (int smell = 0; smell <= 3; smell++) {
            for (int other = smell; other <= 3; other++) {
                due.is("none CLASH at first", x.clash(smell, other, false), 0);
                due.is("clash " + smell + ", " + other, x.clash(smell, other, true), 1);
                due.is("is none new", x.clash(other, smell, true), 0);
            }
        }
        for (int smell = 0; smell <= 3; smell++) {
            for (int other = smell; other <= 3; other++) {
                due.is("no clash " + smell + ", " + other, x.clash(other, smell, false), 1);
                due.is("is none new", x.clash(smell, other, false), 0);
            }
        }
        due.says("Two SMELLS (or one with itself) CLASH, or not: 1 if that is new, else 0. "
                + "STATE; NUMBER.");
        for (Scene scene : Scene.NOT_OPEN) {
            twins.outside("clash v, 0", scene, 0, 3, (y, v) -> y.clash(v, 0, true));
            twins.outside("clash 3, v", scene, 0, 3, (y, v) -> y.clash(3, v, true));
            twins.outside("no clash v, 1", scene, 0, 3, (y, v) -> y.clash(v, 1, false));
            twins.outside("clash v, v", scene, 0, 3, (y, v) -> y.clash(v, v, true));
        }
    }

    private static void dishes() {
        due.says("DISHES are 0 to 5.");
        for (int dish = 0; dish <= 5; dish++) {
            NightStalls x = new NightStalls();
            due.is("stall of DISH " + dish, x.stall(dish, 0, 0, 1, 1, 99), 0);
            due.is("its DISH", x.of(0, 0), dish);
            due.is("change to its own", x.change(0, 0, dish), dish);
            x.open(0);
            due.is("guest of DISH " + dish, x.guest(dish, 1), 0);
            due.is("its DISH", x.guestOf(0, 3), dish);
            due.is("SALES", x.go(3), 1);
            for (int other = 0; other <= 5; other++) {
                due.is("suspects of DISH " + other, x.suspects(other, 0, 2),
                        other == dish ? 1 : 0);
            }
        }
        twins.outside("stall v", Scene.DAY, 0, 5, (x, v) -> x.stall(v, 0, 0, 1, 1, 99));
        twins.outside("change 0, 0, v", Scene.DAY, 0, 5, (x, v) -> x.change(0, 0, v));
        twins.outside("guest v, 5", Scene.NIGHT, 0, 5, (x, v) -> x.guest(v, 5));
        for (Scene scene : Scene.values()) {
            twins.outside("suspects v, 0, 9", scene, 0, 5, (x, v) -> x.suspects(v, 0, 9));
        }
    }

    private static void stallNumbers() {
        due.says("STALLS are numbered from 0 as they come, 5 at most");
        NightStalls x = new NightStalls();
        for (int stall = 0; stall < 5; stall++) {
            due.is("STALLS", x.many(1), stall);
            due.is("of the next one", x.of(stall, 0), NUMBER);
            due.is("change of the next one", x.change(stall, 0, 0), NUMBER);
            due.is("layout of the next one", x.layout(0, stall), NUMBER);
            due.is("stall", x.stall(stall, 0, 0, 1, 1, 99), stall);
            due.is("of", x.of(stall, 0), stall);
            due.is("change", x.change(stall, 0, 5), stall);
            due.is("layout of " + stall, x.layout(0, stall), stall == 0 ? 0 : NightStalls.NONE);
        }
        due.says("`FULL = -2`: There are as many as may be.");
        due.is("the sixth", x.stall(0, 0, 0, 1, 1, 99), NightStalls.FULL);
        due.is("STALLS", x.many(1), 5);
        due.says("A STALL comes: its number. STATE; NUMBER: a number isn't as told; FULL.");
        twins.idle("stall", Scene.FULL_OF_STALLS, y -> y.stall(0, 0, 0, 1, 1, 0),
                NightStalls.FULL);
        twins.idle("stall", Scene.FULL_OF_STALLS, y -> y.stall(5, 3, 30, 9, 20, 99),
                NightStalls.FULL);
        due.says("Of a STALL what = 0 DISH, 1 SMELL, 2 WATTS, 3 PACE, 4 PRICE, 5 PAPER becomes v: "
                + "what it was. STATE; NUMBER.");
        for (int what = 0; what < 6; what++) {
            int of = what;
            twins.idle("change 0", Scene.NEW, y -> y.change(0, of, 1), NUMBER);
            twins.outside("change v", Scene.DAY, 0, 2, (y, v) -> y.change(v, of, 1));
            twins.outside("change v", Scene.FULL_OF_STALLS, 0, 4, (y, v) -> y.change(v, of, 1));
        }
        twins.outside("change 0, v, 1", Scene.DAY, 0, 5, (y, v) -> y.change(0, v, 1));
        twins.outside("change 2, v, 1", Scene.SHUT, 0, 5, (y, v) -> y.change(2, v, 1));
    }

    private static void traits() {
        due.says("each has a DISH, a SMELL, WATTS (0 to 30), a PACE (1 to 9 TICKS), "
                + "a PRICE (1 to 20), and a PAPER that holds till a NIGHT (0 to 99, with it).");
        int[] least = {0, 0, 0, 1, 1, 0};
        int[] most = {5, 3, 30, 9, 20, 99};
        for (int what = 0; what < 6; what++) {
            int of = what;
            NightStalls x = new NightStalls();
            due.is("stall, the least " + what, comeWith(x, what, least[what]), 0);
            due.is("stall, the greatest " + what, comeWith(x, what, most[what]), 1);
            due.is("of, the least", x.of(0, what), least[what]);
            due.is("of, the greatest", x.of(1, what), most[what]);
            due.is("change to the greatest", x.change(0, what, most[what]), least[what]);
            due.is("change to the least", x.change(1, what, least[what]), most[what]);
            due.is("of, the greatest", x.of(0, what), most[what]);
            due.is("of, the least", x.of(1, what), least[what]);
            twins.outside("stall with " + what, Scene.DAY, least[what], most[what],
                    (y, v) -> comeWith(y, of, v));
            twins.outside("stall with " + what, Scene.NEW, least[what], most[what],
                    (y, v) -> comeWith(y, of, v));
            twins.outside("change of " + what, Scene.DAY, least[what], most[what],
                    (y, v) -> y.change(2, of, v));
            twins.outside("change of " + what, Scene.SHUT, least[what], most[what],
                    (y, v) -> y.change(0, of, v));
        }
    }

    /** A STALL that is as told but for, perhaps, one number. */
    private static int comeWith(NightStalls x, int what, int v) {
        int[] t = {2, 1, 15, 5, 10, 50};
        t[what] = v;
        return x.stall(t[0], t[1], t[2], t[3], t[4], t[5]);
    }

    private static void apart() {
        due.says("APART (0 to 3; 1 at first)");
        NightStalls x = new NightStalls();
        due.is("APART at first", x.rule(0, 3), 1);
        due.is("APART 3", x.rule(0, 0), 3);
        due.is("APART 0", x.rule(0, 0), 0);
        due.says("What = 0 APART, 1 SHARE is v: what it was. STATE; NUMBER.");
        for (Scene scene : Scene.NOT_OPEN) {
            twins.outside("rule 0, v", scene, 0, 3, (y, v) -> y.rule(0, v));
            twins.outside("rule v, 0", scene, 0, 1, (y, v) -> y.rule(v, 0));
            twins.outside("rule v, 3", scene, 0, 1, (y, v) -> y.rule(v, 3));
        }
    }

    private static void share() {
        due.says("SHARE (0 to 50; 10 at first)");
        NightStalls x = new NightStalls();
        due.is("SHARE at first", x.rule(1, 50), 10);
        due.is("SHARE 50", x.rule(1, 0), 50);
        due.is("SHARE 0", x.rule(1, 4), 0);
        due.is("SHARE 4, above what APART may be", x.rule(1, 4), 4);
        for (Scene scene : Scene.NOT_OPEN) {
            twins.outside("rule 1, v", scene, 0, 50, (y, v) -> y.rule(1, v));
        }
    }

    private static void nights() {
        due.says("NUMBER: there is no such NIGHT (0 to 99), STALL; NONE: nothing.");
        NightStalls x = new NightStalls();
        x.place(0, 0, 9);
        x.stall(0, 0, 0, 1, 1, 99);
        due.is("layout(0, 0)", x.layout(0, 0), 0);
        due.is("layout(99, 0)", x.layout(99, 0), 0);
        for (Scene scene : Scene.values()) {
            twins.outside("layout v, 0", scene, 0, 99, (y, v) -> y.layout(v, 0));
        }
        twins.idle("layout 0, 0 without STALLS", Scene.NEW, y -> y.layout(0, 0), NUMBER);
        twins.outside("layout 0, v", Scene.DAY, 0, 2, (y, v) -> y.layout(0, v));
        twins.outside("layout 99, v", Scene.NIGHT, 0, 2, (y, v) -> y.layout(99, v));
        twins.outside("layout 0, v", Scene.FULL_OF_STALLS, 0, 4, (y, v) -> y.layout(0, v));
        twins.idle("layout 3, 2: its PAPER is over", Scene.DAY, y -> y.layout(3, 2),
                NightStalls.NONE);
        due.says("The sum of RENTS of THE LAYOUT for a NIGHT. NUMBER: there is no such NIGHT.");
        due.is("worth(0)", x.worth(0), 9);
        due.is("worth(99)", x.worth(99), 9);
        for (Scene scene : Scene.values()) {
            twins.outside("worth", scene, 0, 99, (y, v) -> y.worth(v));
        }
        due.says("A NIGHT opens: how many STALLS stand. STATE: one is OPEN; NUMBER.");
        due.is("open(0)", x.open(0), 1);
        x.shut();
        due.is("open(99)", x.open(99), 1);
        for (Scene scene : Scene.NOT_OPEN) {
            twins.outside("open", scene, 0, 99, (y, v) -> y.open(v));
        }
    }

    private static void patience() {
        due.says("NUMBER: there is no such DISH, or patience isn't as told; FULL.");
        NightStalls x = new NightStalls();
        x.open(0);
        due.is("guest(0, 1)", x.guest(0, 1), 0);
        due.is("guest(0, 50)", x.guest(0, 50), 1);
        due.is("PATIENCE 1", x.guestOf(0, 2), 1);
        due.is("PATIENCE 50", x.guestOf(1, 2), 50);
        for (Scene scene : Scene.OPEN) {
            twins.outside("guest 0, v", scene, 1, 50, (y, v) -> y.guest(0, v));
            twins.outside("guest v, 1", scene, 0, 5, (y, v) -> y.guest(v, 1));
        }
    }

    private static void guestNumbers() {
        due.says("GUESTS are numbered from 0 as they come, 20 at most");
        NightStalls x = new NightStalls();
        x.open(0);
        for (int guest = 0; guest < 20; guest++) {
            due.is("guestOf the next one", x.guestOf(guest, 0), NUMBER);
            due.is("GUESTS", x.many(5), guest);
            due.is("guest", x.guest(guest % 6, 1 + guest), guest);
            due.is("guestOf", x.guestOf(guest, 2), 1 + guest);
        }
        due.says("`FULL = -2`: There are as many as may be.");
        due.is("the one behind 20", x.guest(0, 1), NightStalls.FULL);
        due.is("guestOf(20, 0)", x.guestOf(20, 0), NUMBER);
        x.go(50);
        due.is("all are GONE", x.many(8), 20);
        due.is("they still are as many as may be", x.guest(0, 1), NightStalls.FULL);
        due.is("GUESTS", x.many(5), 20);
        x.shut();
        x.open(0);
        due.is("the first of the next NIGHT", x.guest(0, 1), 0);
        twins.idle("guest 0, 1", Scene.FULL_OF_GUESTS, y -> y.guest(0, 1), NightStalls.FULL);
        twins.idle("guest 5, 50", Scene.FULL_OF_GUESTS, y -> y.guest(5, 50), NightStalls.FULL);
    }

    private static void ticks() {
        due.says("n TICKS (1 to 50): how many SALES there were in these. STATE: none is OPEN; "
                + "NUMBER.");
        NightStalls x = new NightStalls();
        x.open(0);
        due.is("go(1)", x.go(1), 0);
        due.is("TICK", x.many(4), 1);
        due.is("go(50)", x.go(50), 0);
        due.is("TICK", x.many(4), 51);
        for (Scene scene : Scene.OPEN) {
            twins.outside("go", scene, 1, 50, (y, v) -> y.go(v));
        }
    }

    private static void plugged() {
        due.says("PLUGGED WATTS (0 to 99) of a LINE are v: 1 if it TRIPS by that, else 0.");
        NightStalls x = new NightStalls();
        x.limit(2, 99);
        x.open(0);
        due.is("plug(2, 99)", x.plug(2, 99), 0);
        due.is("PLUGGED", x.lineOf(2, 2), 99);
        due.is("plug(2, 0)", x.plug(2, 0), 0);
        due.is("PLUGGED", x.lineOf(2, 2), 0);
        due.is("plug(0, 0)", x.plug(0, 0), 0);
        for (Scene scene : Scene.OPEN) {
            twins.outside("plug 2, v", scene, 0, 99, (y, v) -> y.plug(2, v));
            twins.outside("plug 1, v (TRIPPED)", scene, 0, 99, (y, v) -> y.plug(1, v));
        }
    }

    private static void linesByNight() {
        due.says("STATE: none is OPEN; NUMBER; TRIPS: it has TRIPPED.");
        for (Scene scene : Scene.OPEN) {
            twins.outside("plug v, 1", scene, 0, 2, (y, v) -> y.plug(v, 1));
        }
        due.says("A LINE is RESET: 1. STATE: none is OPEN; NUMBER; NONE: it hasn't TRIPPED; "
                + "TRIPS: it would, by what is PLUGGED.");
        for (Scene scene : Scene.OPEN) {
            twins.outside("reset", scene, 0, 2, (y, v) -> y.reset(v));
        }
        due.says("Nothing is PLUGGED on a LINE any more (whether it has TRIPPED or not): "
                + "how much was. STATE: none is OPEN; NUMBER.");
        for (Scene scene : Scene.OPEN) {
            twins.outside("pull", scene, 0, 2, (y, v) -> y.pull(v));
        }
        for (int line = 0; line <= 2; line++) {
            NightStalls x = new NightStalls();
            x.open(0);
            due.is("plug of LINE " + line, x.plug(line, 31), 1);
            due.is("pull of LINE " + line, x.pull(line), 31);
            due.is("reset of LINE " + line, x.reset(line), 1);
        }
    }

    private static void ofWhat() {
        due.says("11 its BILL (0: it doesn't stand). NUMBER: there is none such, another what.");
        for (Scene scene : Scene.values()) {
            int stalls = scene.make().many(1);
            for (int what = 0; what <= 11; what++) {
                int of = what;
                twins.outside("of v, " + what, scene, 0, stalls - 1, (y, v) -> y.of(v, of));
            }
            for (int stall = 0; stall < stalls; stall++) {
                int of = stall;
                twins.outside("of " + stall + ", v", scene, 0, 11, (y, v) -> y.of(of, v));
            }
        }
        NightStalls x = Scene.NIGHT.make();
        due.is("the least what", x.of(1, 0), 1);
        due.is("the greatest what", x.of(1, 11), 20);
    }

    private static void guestOfWhat() {
        due.says("4 the STALL where it WAITS, is COOKED for or was FED (NONE). "
                + "NUMBER: there is none such, another what.");
        for (Scene scene : Scene.values()) {
            int guests = scene.make().many(5);
            for (int what = 0; what <= 4; what++) {
                int of = what;
                twins.outside("guestOf v, " + what, scene, 0, guests - 1,
                        (y, v) -> y.guestOf(v, of));
            }
            for (int guest = 0; guest < guests; guest++) {
                int of = guest;
                twins.outside("guestOf " + guest + ", v", scene, 0, 4, (y, v) -> y.guestOf(of, v));
            }
        }
        NightStalls x = Scene.FULL_OF_GUESTS.make();
        due.is("the least GUEST and what", x.guestOf(0, 0), 3);
        due.is("the greatest GUEST and what", x.guestOf(19, 4), NightStalls.NONE);
    }

    private static void suspects() {
        due.says("SUSPECTS, as bits. NUMBER: there is no such DISH, from is below 0, or above to.");
        for (Scene scene : Scene.values()) {
            twins.idle("suspects 0, -1, 9", scene, y -> y.suspects(0, -1, 9), NUMBER);
            twins.idle("suspects 0, -1, -1", scene, y -> y.suspects(0, -1, -1), NUMBER);
            twins.idle("suspects 0, MIN, MAX", scene,
                    y -> y.suspects(0, Integer.MIN_VALUE, HIGH), NUMBER);
            twins.idle("suspects 0, 1, 0", scene, y -> y.suspects(0, 1, 0), NUMBER);
            twins.idle("suspects 0, 0, -1", scene, y -> y.suspects(0, 0, -1), NUMBER);
            twins.idle("suspects 0, MAX, MAX - 1", scene, y -> y.suspects(0, HIGH, HIGH - 1),
                    NUMBER);
            twins.idle("suspects 0, 0, MIN", scene, y -> y.suspects(0, 0, Integer.MIN_VALUE),
                    NUMBER);
            twins.idle("suspects 0, MAX, MAX", scene, y -> y.suspects(0, HIGH, HIGH), 0);
            twins.idle("suspects 0, 0, 0", scene, y -> y.suspects(0, 0, 0), 0);
        }
        twins.idle("suspects 0, 0, MAX", Scene.NIGHT, y -> y.suspects(0, 0, HIGH), 1);
        twins.idle("suspects 0, 3, 3", Scene.NIGHT, y -> y.suspects(0, 3, 3), 1);
    }

    private static void lineOfWhat() {
        due.says("3 1 if it has TRIPPED, else 0. NUMBER: there is none such, another what.");
        for (Scene scene : Scene.values()) {
            for (int what = 0; what <= 3; what++) {
                int of = what;
                twins.outside("lineOf v, " + what, scene, 0, 2, (y, v) -> y.lineOf(v, of));
            }
            for (int line = 0; line <= 2; line++) {
                int of = line;
                twins.outside("lineOf " + line + ", v", scene, 0, 3, (y, v) -> y.lineOf(of, v));
            }
        }
        int[][] want = {{40, 10, 3, 0}, {30, 20, 31, 1}, {50, 0, 7, 0}};
        NightStalls x = Scene.NIGHT.make();
        for (int line = 0; line <= 2; line++) {
            for (int what = 0; what <= 3; what++) {
                due.is("lineOf " + line + ", " + what, x.lineOf(line, what), want[line][what]);
            }
        }
    }

    private static void manyWhat() {
        due.says("10 all BILLS together, 11 LANES. NUMBER: another what.");
        for (Scene scene : Scene.values()) {
            twins.outside("many", scene, 0, 11, (y, v) -> y.many(v));
        }
        NightStalls x = Scene.NIGHT.make();
        due.is("the least what", x.many(0), 4);
        due.is("the greatest what", x.many(11), 1);
    }
}
