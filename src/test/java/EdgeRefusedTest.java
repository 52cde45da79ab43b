import java.util.function.ToIntFunction;

/** What a refused call changes (nothing), and which of several refusals is answered. */
public final class EdgeRefusedTest {
    private static final Due due = new Due();
    private static final Twins twins = new Twins(due);
    private static final int LOW = Integer.MIN_VALUE;
    private static final int HIGH = Integer.MAX_VALUE;
    private static final int NUMBER = NightStalls.NUMBER;
    private static final int FULL = NightStalls.FULL;
    private static final int STATE = NightStalls.STATE;
    private static final int NONE = NightStalls.NONE;
    private static final int TRIPS = NightStalls.TRIPS;

    public static void main(String[] args) {
        scenesAreAsTold();
        streetWhileOpen();
        placeWhileOpen();
        limitWhileOpen();
        clashWhileOpen();
        ruleWhileOpen();
        stallWhileOpen();
        changeWhileOpen();
        openWhileOpen();
        shutWhileNoneIsOpen();
        guestWhileNoneIsOpen();
        goWhileNoneIsOpen();
        plugWhileNoneIsOpen();
        resetWhileNoneIsOpen();
        pullWhileNoneIsOpen();
        numberAheadOfFull();
        numberAheadOfTrips();
        numberAheadOfNone();
        plugOfATrippedLine();
        resetOfALineThatHasNotTripped();
        resetOfALineThatWouldTrip();
        nothingKept();
        severalNumbersAtOnce();
        tellingChangesNothing();
        refusedInARow();
        due.end();
    }

    private static void idle(Scene[] scenes, String call, ToIntFunction<NightStalls> ask,
            int answer) {
        for (Scene scene : scenes) {
            twins.idle(call, scene, ask, answer);
        }
    }

    /** The rest leans on this: NIGHT has a GUEST of each kind, a LINE of each kind, something kept. */
    private static void scenesAreAsTold() {
        due.promise("the scenes");
        NightStalls x = Scene.NIGHT.make();
        int[] kinds = {3, 4, 2, 5, 1, 1, 0};
        for (int guest = 0; guest < kinds.length; guest++) {
            due.is("guestOf " + guest, x.guestOf(guest, 0), kinds[guest]);
        }
        due.is("a SALE", x.of(0, 7), 1);
        due.is("a STALL without a PLACE", x.of(2, 6), NONE);
        due.is("TRIPPED", x.lineOf(1, 3), 1);
        due.is("not TRIPPED", x.lineOf(2, 3), 0);
        due.is("20 GUESTS", Scene.FULL_OF_GUESTS.make().many(5), 20);
        due.is("5 STALLS", Scene.FULL_OF_STALLS.make().many(1), 5);
        for (Scene scene : Scene.OPEN) {
            due.is(scene + " is OPEN", scene.make().many(3), 1);
            due.is(scene + " has something kept", scene.make().back(), 1);
        }
        for (Scene scene : Scene.NOT_OPEN) {
            due.is(scene + " is not OPEN", scene.make().many(3), 0);
        }
    }

    private static void streetWhileOpen() {
        due.says("STATE for all of these, ahead of all else, while a NIGHT is OPEN.");
        int[] all = {1, 4, 8, 0, 9, -1, LOW, HIGH};
        for (int n : all) {
            idle(Scene.OPEN, "street " + n, x -> x.street(n), STATE);
        }
    }

    private static void placeWhileOpen() {
        due.says("Of a PLACE what = 0 RENT, 1 LINE, 2 LANE (0, 1) becomes v: what it was. STATE;");
        int[][] all = {{0, 0, 0}, {3, 0, 99}, {0, 1, 2}, {1, 2, 0}, {2, 2, 1}, {-1, 0, 0},
            {4, 0, 0}, {0, -1, 0}, {0, 3, 0}, {0, 0, -1}, {0, 0, 100}, {0, 1, 3}, {0, 2, 2},
            {LOW, LOW, LOW}, {HIGH, HIGH, HIGH}};
        for (int[] a : all) {
            idle(Scene.OPEN, "place " + a[0] + ", " + a[1] + ", " + a[2],
                    x -> x.place(a[0], a[1], a[2]), STATE);
        }
    }

    private static void limitWhileOpen() {
        due.says("The LIMIT of a LINE: what it was. STATE;");
        int[][] all = {{0, 0}, {1, 99}, {2, 30}, {-1, 0}, {3, 0}, {0, -1}, {0, 100}, {LOW, HIGH}};
        for (int[] a : all) {
            idle(Scene.OPEN, "limit " + a[0] + ", " + a[1], x -> x.limit(a[0], a[1]), STATE);
        }
    }

    private static void clashWhileOpen() {
        due.says("CLASH, or not: 1 if that is new, else 0. STATE;");
        int[][] all = {{0, 0}, {0, 1}, {2, 2}, {3, 3}, {-1, 0}, {0, -1}, {4, 0}, {0, 4},
            {LOW, HIGH}};
        for (int[] a : all) {
            idle(Scene.OPEN, "clash " + a[0] + ", " + a[1], x -> x.clash(a[0], a[1], true), STATE);
            idle(Scene.OPEN, "no clash " + a[0] + ", " + a[1], x -> x.clash(a[0], a[1], false),
                    STATE);
        }
    }

    private static void ruleWhileOpen() {
        due.says("What = 0 APART, 1 SHARE is v: what it was. STATE;");
        int[][] all = {{0, 0}, {0, 3}, {1, 0}, {1, 50}, {-1, 0}, {2, 0}, {0, -1}, {0, 4}, {1, -1},
            {1, 51}, {LOW, HIGH}};
        for (int[] a : all) {
            idle(Scene.OPEN, "rule " + a[0] + ", " + a[1], x -> x.rule(a[0], a[1]), STATE);
        }
    }

    private static void stallWhileOpen() {
        due.says("A STALL comes: its number. STATE;");
        idle(Scene.OPEN, "stall", x -> x.stall(0, 0, 0, 1, 1, 0), STATE);
        idle(Scene.OPEN, "stall, all the greatest", x -> x.stall(5, 3, 30, 9, 20, 99), STATE);
        idle(Scene.OPEN, "stall of DISH 6", x -> x.stall(6, 0, 0, 1, 1, 0), STATE);
        idle(Scene.OPEN, "stall, all wrong", x -> x.stall(-1, -1, -1, 0, 0, -1), STATE);
        NightStalls x = Scene.FULL_OF_STALLS.make();
        x.open(0);
        due.is("STATE ahead of FULL", x.stall(0, 0, 0, 1, 1, 0), STATE);
        due.is("STATE ahead of NUMBER and FULL", x.stall(-1, 0, 0, 1, 1, 0), STATE);
        x.shut();
        due.is("once it is shut: FULL", x.stall(0, 0, 0, 1, 1, 0), FULL);
    }

    private static void changeWhileOpen() {
        due.says("3 PACE, 4 PRICE, 5 PAPER becomes v: what it was. STATE;");
        for (int what = 0; what < 6; what++) {
            int of = what;
            idle(Scene.OPEN, "change 0, " + what + ", 1", x -> x.change(0, of, 1), STATE);
        }
        int[][] all = {{0, 2, 0}, {2, 5, 99}, {-1, 0, 0}, {3, 0, 0}, {5, 0, 0}, {0, -1, 0},
            {0, 6, 0}, {0, 0, -1}, {0, 0, 6}, {0, 3, 0}, {LOW, LOW, LOW}, {HIGH, HIGH, HIGH}};
        for (int[] a : all) {
            idle(Scene.OPEN, "change " + a[0] + ", " + a[1] + ", " + a[2],
                    x -> x.change(a[0], a[1], a[2]), STATE);
        }
    }

    private static void openWhileOpen() {
        due.says("STATE: one is OPEN; NUMBER.");
        int[] all = {0, 3, 99, -1, 100, LOW, HIGH};
        for (int night : all) {
            idle(Scene.OPEN, "open " + night, x -> x.open(night), STATE);
        }
    }

    private static void shutWhileNoneIsOpen() {
        due.says("The NIGHT is shut: its TICK. STATE: none is OPEN.");
        idle(Scene.NOT_OPEN, "shut", x -> x.shut(), STATE);
        NightStalls x = Scene.NIGHT.make();
        due.is("shut", x.shut(), 5);
        due.is("shut again", x.shut(), STATE);
    }

    private static void guestWhileNoneIsOpen() {
        due.says("A GUEST comes: its number. STATE: none is OPEN;");
        int[][] all = {{0, 1}, {5, 50}, {-1, 1}, {6, 1}, {0, 0}, {0, 51}, {LOW, HIGH}};
        for (int[] a : all) {
            idle(Scene.NOT_OPEN, "guest " + a[0] + ", " + a[1], x -> x.guest(a[0], a[1]), STATE);
        }
        NightStalls x = Scene.FULL_OF_GUESTS.make();
        x.shut();
        due.is("STATE ahead of FULL", x.guest(0, 1), STATE);
        due.is("STATE ahead of NUMBER and FULL", x.guest(0, 0), STATE);
    }

    private static void goWhileNoneIsOpen() {
        due.says("how many SALES there were in these. STATE: none is OPEN;");
        int[] all = {1, 50, 0, 51, -1, LOW, HIGH};
        for (int n : all) {
            idle(Scene.NOT_OPEN, "go " + n, x -> x.go(n), STATE);
        }
    }

    private static void plugWhileNoneIsOpen() {
        due.says("1 if it TRIPS by that, else 0. STATE: none is OPEN;");
        int[][] all = {{0, 0}, {0, 99}, {1, 1}, {2, 31}, {-1, 0}, {3, 0}, {0, -1}, {0, 100},
            {1, -1}, {LOW, HIGH}};
        for (int[] a : all) {
            idle(Scene.NOT_OPEN, "plug " + a[0] + ", " + a[1], x -> x.plug(a[0], a[1]), STATE);
        }
    }

    private static void resetWhileNoneIsOpen() {
        due.says("A LINE is RESET: 1. STATE: none is OPEN;");
        int[] all = {0, 1, 2, -1, 3, LOW, HIGH};
        for (int line : all) {
            idle(Scene.NOT_OPEN, "reset " + line, x -> x.reset(line), STATE);
        }
        NightStalls x = Scene.PULLED.make();
        x.shut();
        due.is("STATE, though it may be RESET by night", x.reset(1), STATE);
        due.is("it has TRIPPED still", x.lineOf(1, 3), 1);
    }

    private static void pullWhileNoneIsOpen() {
        due.says("(whether it has TRIPPED or not): how much was. STATE: none is OPEN;");
        int[] all = {0, 1, 2, -1, 3, LOW, HIGH};
        for (int line : all) {
            idle(Scene.NOT_OPEN, "pull " + line, x -> x.pull(line), STATE);
        }
    }

    private static void numberAheadOfFull() {
        due.says("Of several refusals that a call names the first one named is answered.");
        int[][] wrong = {{-1, 0, 0, 1, 1, 0}, {6, 0, 0, 1, 1, 0}, {0, -1, 0, 1, 1, 0},
            {0, 4, 0, 1, 1, 0}, {0, 0, -1, 1, 1, 0}, {0, 0, 31, 1, 1, 0}, {0, 0, 0, 0, 1, 0},
            {0, 0, 0, 10, 1, 0}, {0, 0, 0, 1, 0, 0}, {0, 0, 0, 1, 21, 0}, {0, 0, 0, 1, 1, -1},
            {0, 0, 0, 1, 1, 100}};
        for (int[] w : wrong) {
            twins.idle("stall", Scene.FULL_OF_STALLS,
                    x -> x.stall(w[0], w[1], w[2], w[3], w[4], w[5]), NUMBER);
        }
        int[][] guests = {{-1, 1}, {6, 1}, {0, 0}, {0, 51}, {LOW, LOW}};
        for (int[] g : guests) {
            twins.idle("guest " + g[0] + ", " + g[1], Scene.FULL_OF_GUESTS,
                    x -> x.guest(g[0], g[1]), NUMBER);
        }
    }

    private static void numberAheadOfTrips() {
        due.says("NUMBER; TRIPS: it has TRIPPED.");
        twins.idle("plug 1, -1", Scene.NIGHT, x -> x.plug(1, -1), NUMBER);
        twins.idle("plug 1, 100", Scene.NIGHT, x -> x.plug(1, 100), NUMBER);
        twins.idle("plug 1, 100", Scene.PULLED, x -> x.plug(1, 100), NUMBER);
        twins.idle("plug 1, 99", Scene.NIGHT, x -> x.plug(1, 99), TRIPS);
    }

    private static void numberAheadOfNone() {
        due.says("there is no such NIGHT (0 to 99), STALL; NONE: nothing.");
        idle(Scene.values(), "layout 100, 0", x -> x.layout(100, 0), NUMBER);
        idle(Scene.values(), "layout 99, 5", x -> x.layout(99, 5), NUMBER);
        twins.idle("layout 99, 1", Scene.DAY, x -> x.layout(99, 1), NONE);
        due.says("NUMBER; NONE: it hasn't TRIPPED;");
        idle(Scene.OPEN, "reset 3", x -> x.reset(3), NUMBER);
        idle(Scene.OPEN, "reset -1", x -> x.reset(-1), NUMBER);
    }

    private static void plugOfATrippedLine() {
        due.says("TRIPS: it has TRIPPED.");
        int[] all = {0, 1, 10, 11, 31, 99};
        for (int v : all) {
            twins.idle("plug 1, " + v, Scene.NIGHT, x -> x.plug(1, v), TRIPS);
            twins.idle("plug 1, " + v, Scene.PULLED, x -> x.plug(1, v), TRIPS);
        }
    }

    private static void resetOfALineThatHasNotTripped() {
        due.says("NONE: it hasn't TRIPPED;");
        idle(Scene.OPEN, "reset 0, some PLUGGED", x -> x.reset(0), NONE);
        idle(Scene.OPEN, "reset 2, some PLUGGED", x -> x.reset(2), NONE);
        NightStalls x = Scene.PULLED.make();
        due.is("reset 1", x.reset(1), 1);
        due.is("reset 1 again", x.reset(1), NONE);
    }

    private static void resetOfALineThatWouldTrip() {
        due.says("TRIPS: it would, by what is PLUGGED.");
        twins.idle("reset 1", Scene.NIGHT, x -> x.reset(1), TRIPS);
    }

    private static void nothingKept() {
        due.says("NONE: nothing is kept.");
        twins.idle("back", Scene.NEW, x -> x.back(), NONE);
        NightStalls x = new NightStalls();
        x.street(3);
        x.place(2, 0, 9);
        x.stall(0, 0, 0, 1, 1, 9);
        x.open(0);
        x.guest(0, 4);
        x.go(3);
        String before = Tell.NOW.of(x);
        due.is("back by night", x.back(), NONE);
        due.same("by night all stays", Tell.NOW.of(x), before);
        x.shut();
        due.is("back when it is shut", x.back(), NONE);
    }

    private static void severalNumbersAtOnce() {
        due.says("`NUMBER = -1`: A number is none, or none that may be.");
        twins.idle("place", Scene.DAY, x -> x.place(9, 9, 999), NUMBER);
        twins.idle("limit", Scene.DAY, x -> x.limit(LOW, HIGH), NUMBER);
        twins.idle("clash", Scene.DAY, x -> x.clash(HIGH, LOW, true), NUMBER);
        twins.idle("rule", Scene.DAY, x -> x.rule(HIGH, HIGH), NUMBER);
        twins.idle("stall", Scene.DAY, x -> x.stall(LOW, LOW, LOW, LOW, LOW, LOW), NUMBER);
        twins.idle("change", Scene.DAY, x -> x.change(HIGH, HIGH, HIGH), NUMBER);
        twins.idle("layout", Scene.DAY, x -> x.layout(LOW, HIGH), NUMBER);
        twins.idle("guest", Scene.NIGHT, x -> x.guest(HIGH, LOW), NUMBER);
        twins.idle("plug", Scene.NIGHT, x -> x.plug(LOW, LOW), NUMBER);
        idle(Scene.values(), "of", x -> x.of(HIGH, LOW), NUMBER);
        idle(Scene.values(), "guestOf", x -> x.guestOf(LOW, HIGH), NUMBER);
        idle(Scene.values(), "suspects", x -> x.suspects(HIGH, HIGH, LOW), NUMBER);
        idle(Scene.values(), "lineOf", x -> x.lineOf(HIGH, HIGH), NUMBER);
    }

    /** Layouts and what is told are asked for at any time, and are no change. */
    private static void tellingChangesNothing() {
        due.says("`NONE = -4`: There is none.");
        for (Scene scene : Scene.values()) {
            twins.idle("all that is told", scene, x -> Tell.NOW.of(x).isEmpty() ? 1 : 0, 0);
        }
        twins.idle("of 2, 6: it doesn't stand", Scene.NIGHT, x -> x.of(2, 6), NONE);
        twins.idle("guestOf 0, 1: FED", Scene.NIGHT, x -> x.guestOf(0, 1), NONE);
        twins.idle("guestOf 6, 4: it WALKS", Scene.NIGHT, x -> x.guestOf(6, 4), NONE);
    }

    /** Many refused calls after one another change as little as one. */
    private static void refusedInARow() {
        due.says("A call that is refused (answers below 0, where not told otherwise) "
                + "changes nothing.");
        idle(Scene.OPEN, "by night", x -> {
            int answers = 0;
            for (int i = 0; i < 3; i++) {
                answers += x.street(1 + i) + x.place(i, 0, 1) + x.limit(i, i) + x.rule(0, i)
                        + x.clash(i, 3, true) + x.stall(0, 0, 0, 1, 1, 9) + x.change(i, 4, 20)
                        + x.open(i);
                answers += x.guest(6 + i, 5) + x.go(51 + i) + x.plug(3 + i, 9) + x.plug(1, i)
                        + x.reset(3 + i) + x.reset(2) + x.pull(3 + i);
            }
            return answers;
        }, 3 * (8 * STATE + 5 * NUMBER + TRIPS + NONE));
        idle(Scene.NOT_OPEN, "by day", x -> {
            int answers = 0;
            for (int i = 0; i < 3; i++) {
                answers += x.street(9 + i) + x.place(8 + i, 0, 1) + x.limit(3 + i, i)
                        + x.rule(2 + i, i) + x.clash(4 + i, 3, true)
                        + x.stall(6 + i, 0, 0, 1, 1, 9) + x.change(5 + i, 4, 20)
                        + x.open(100 + i);
                answers += x.shut() + x.guest(i, 5) + x.go(1 + i) + x.plug(i, 9) + x.reset(i)
                        + x.pull(i);
            }
            return answers;
        }, 3 * (8 * NUMBER + 6 * STATE));
    }
}
