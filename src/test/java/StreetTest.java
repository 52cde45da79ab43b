/** Promises 1 to 8: a new object, and what is set by day. */
public final class StreetTest {
    private static final Due due = new Due();
    private static final int LOW = Integer.MIN_VALUE;
    private static final int HIGH = Integer.MAX_VALUE;

    public static void main(String[] args) {
        newObject();
        street();
        streetAfterNight();
        place();
        limit();
        clash();
        rule();
        stall();
        change();
        stateAheadOfAllElse();
        due.end();
    }

    private static void newObject() {
        due.promise("1 a new object");
        NightStalls x = new NightStalls();
        due.is("many(0)", x.many(0), 1);
        for (int what = 1; what <= 11; what++) {
            due.is("many(" + what + ")", x.many(what), 0);
        }
        due.is("back()", x.back(), NightStalls.NONE);
        due.is("shut()", x.shut(), NightStalls.STATE);
        due.is("of(0, 0)", x.of(0, 0), NightStalls.NUMBER);
        due.is("guestOf(0, 0)", x.guestOf(0, 0), NightStalls.NUMBER);
        due.is("layout(0, 0)", x.layout(0, 0), NightStalls.NUMBER);
        due.is("worth(0)", x.worth(0), 0);
        due.is("suspects(0, 0, 9)", x.suspects(0, 0, 9), 0);
        for (int line = 0; line < 3; line++) {
            due.is("lineOf(line, 0)", x.lineOf(line, 0), 30);
            due.is("lineOf(line, 1)", x.lineOf(line, 1), 0);
            due.is("lineOf(line, 2)", x.lineOf(line, 2), 0);
            due.is("lineOf(line, 3)", x.lineOf(line, 3), 0);
        }
        due.is("place(0, 0, 0)", x.place(0, 0, 0), 0);
        due.is("place(0, 1, 0)", x.place(0, 1, 0), 0);
        due.is("place(0, 2, 0)", x.place(0, 2, 0), 0);
        due.is("place(1, 0, 0)", x.place(1, 0, 0), NightStalls.NUMBER);
        due.is("rule(0, 1)", x.rule(0, 1), 1);
        due.is("rule(1, 10)", x.rule(1, 10), 10);
        for (int smell = 0; smell < 4; smell++) {
            for (int other = 0; other < 4; other++) {
                due.is("clash(false)", x.clash(smell, other, false), 0);
            }
        }
        due.is("open(0)", x.open(0), 0);
    }

    private static void street() {
        due.promise("2 street");
        NightStalls x = new NightStalls();
        due.is("street(1)", x.street(1), 1);
        due.is("street(8)", x.street(8), 8);
        due.is("street(0)", x.street(0), NightStalls.NUMBER);
        due.is("street(9)", x.street(9), NightStalls.NUMBER);
        due.is("street(-1)", x.street(-1), NightStalls.NUMBER);
        due.is("street(LOW)", x.street(LOW), NightStalls.NUMBER);
        due.is("street(HIGH)", x.street(HIGH), NightStalls.NUMBER);
        due.is("many(0)", x.many(0), 8);
        x.place(2, 0, 50);
        x.place(3, 1, 2);
        x.place(4, 2, 1);
        due.is("street(9)", x.street(9), NightStalls.NUMBER);
        due.is("many(11) after a refusal", x.many(11), 1);
        due.is("street(5)", x.street(5), 5);
        due.is("many(11)", x.many(11), 0);
        due.is("place(2, 0, 0)", x.place(2, 0, 0), 0);
        due.is("place(3, 1, 0)", x.place(3, 1, 0), 0);
        due.is("place(4, 2, 0)", x.place(4, 2, 0), 0);
        x.place(0, 0, 8);
        x.place(0, 2, 1);
        due.is("many(11)", x.many(11), 1);
        due.is("street(5)", x.street(5), 5);
        due.is("place(0, 0, 0)", x.place(0, 0, 0), 0);
        due.is("place(0, 2, 0)", x.place(0, 2, 0), 0);
        x.place(4, 0, 7);
        due.is("street(2)", x.street(2), 2);
        due.is("street(5)", x.street(5), 5);
        due.is("place(4, 0, 0) as at first", x.place(4, 0, 0), 0);
    }

    private static void streetAfterNight() {
        due.promise("2 street");
        NightStalls x = new NightStalls();
        x.limit(1, 44);
        x.clash(1, 2, true);
        x.rule(0, 2);
        x.rule(1, 33);
        x.stall(0, 0, 5, 1, 20, 9);
        x.open(0);
        x.guest(0, 9);
        x.go(4);
        x.plug(0, 99);
        x.shut();
        due.is("many(9) before", x.many(9), 20);
        due.is("lineOf(0, 3) before", x.lineOf(0, 3), 1);
        due.is("street(3)", x.street(3), 3);
        due.is("many(1)", x.many(1), 1);
        for (int what = 2; what <= 11; what++) {
            due.is("many(" + what + ")", x.many(what), 0);
        }
        due.is("of(0, 2)", x.of(0, 2), 5);
        due.is("of(0, 6)", x.of(0, 6), NightStalls.NONE);
        for (int what = 7; what <= 11; what++) {
            due.is("of(0, " + what + ")", x.of(0, what), 0);
        }
        due.is("guestOf(0, 0)", x.guestOf(0, 0), NightStalls.NUMBER);
        due.is("suspects(0, 0, 99)", x.suspects(0, 0, 99), 0);
        due.is("lineOf(0, 1)", x.lineOf(0, 1), 0);
        due.is("lineOf(0, 2)", x.lineOf(0, 2), 0);
        due.is("lineOf(0, 3)", x.lineOf(0, 3), 0);
        due.is("limits stay", x.lineOf(1, 0), 44);
        due.is("clashes stay", x.clash(2, 1, true), 0);
        due.is("APART stays", x.rule(0, 2), 2);
        due.is("SHARE stays", x.rule(1, 33), 33);
    }

    private static void place() {
        due.promise("3 place");
        NightStalls x = new NightStalls();
        x.street(3);
        due.is("place(0, 0, 99)", x.place(0, 0, 99), 0);
        due.is("place(0, 0, 5)", x.place(0, 0, 5), 99);
        due.is("place(2, 0, 6)", x.place(2, 0, 6), 0);
        due.is("place(0, 0, 100)", x.place(0, 0, 100), NightStalls.NUMBER);
        due.is("place(0, 0, -1)", x.place(0, 0, -1), NightStalls.NUMBER);
        due.is("place(0, 0, 5)", x.place(0, 0, 5), 5);
        due.is("place(1, 1, 2)", x.place(1, 1, 2), 0);
        due.is("place(1, 1, 3)", x.place(1, 1, 3), NightStalls.NUMBER);
        due.is("place(1, 1, -1)", x.place(1, 1, -1), NightStalls.NUMBER);
        due.is("place(1, 1, 1)", x.place(1, 1, 1), 2);
        due.is("place(1, 2, 1)", x.place(1, 2, 1), 0);
        due.is("place(1, 2, 2)", x.place(1, 2, 2), NightStalls.NUMBER);
        due.is("place(1, 2, -1)", x.place(1, 2, -1), NightStalls.NUMBER);
        due.is("many(11)", x.many(11), 1);
        due.is("place(1, 2, 0)", x.place(1, 2, 0), 1);
        due.is("place(1, 0, 0)", x.place(1, 0, 0), 0);
        due.is("place(2, 0, 6)", x.place(2, 0, 6), 6);
        due.is("place(3, 0, 1)", x.place(3, 0, 1), NightStalls.NUMBER);
        due.is("place(-1, 0, 1)", x.place(-1, 0, 1), NightStalls.NUMBER);
        due.is("place(LOW, 0, 1)", x.place(LOW, 0, 1), NightStalls.NUMBER);
        due.is("place(HIGH, 0, 1)", x.place(HIGH, 0, 1), NightStalls.NUMBER);
        due.is("place(0, 3, 0)", x.place(0, 3, 0), NightStalls.NUMBER);
        due.is("place(0, -1, 0)", x.place(0, -1, 0), NightStalls.NUMBER);
        due.is("place(0, HIGH, 0)", x.place(0, HIGH, 0), NightStalls.NUMBER);
    }

    private static void limit() {
        due.promise("4 limit");
        NightStalls x = new NightStalls();
        due.is("limit(0, 0)", x.limit(0, 0), 30);
        due.is("limit(0, 99)", x.limit(0, 99), 0);
        due.is("limit(2, 1)", x.limit(2, 1), 30);
        due.is("limit(0, 100)", x.limit(0, 100), NightStalls.NUMBER);
        due.is("limit(0, -1)", x.limit(0, -1), NightStalls.NUMBER);
        due.is("limit(3, 1)", x.limit(3, 1), NightStalls.NUMBER);
        due.is("limit(-1, 1)", x.limit(-1, 1), NightStalls.NUMBER);
        due.is("limit(LOW, LOW)", x.limit(LOW, LOW), NightStalls.NUMBER);
        due.is("lineOf(0, 0)", x.lineOf(0, 0), 99);
        due.is("lineOf(1, 0)", x.lineOf(1, 0), 30);
        due.is("lineOf(2, 0)", x.lineOf(2, 0), 1);
    }

    private static void clash() {
        due.promise("5 clash");
        NightStalls x = new NightStalls();
        due.is("clash(0, 3, true)", x.clash(0, 3, true), 1);
        due.is("clash(0, 3, true)", x.clash(0, 3, true), 0);
        due.is("clash(3, 0, true)", x.clash(3, 0, true), 0);
        due.is("clash(3, 3, true)", x.clash(3, 3, true), 1);
        due.is("clash(0, 0, false)", x.clash(0, 0, false), 0);
        due.is("clash(3, 0, false)", x.clash(3, 0, false), 1);
        due.is("clash(0, 3, false)", x.clash(0, 3, false), 0);
        due.is("clash(3, 3, false)", x.clash(3, 3, false), 1);
        due.is("clash(3, 3, false)", x.clash(3, 3, false), 0);
        x.clash(1, 2, true);
        x.clash(1, 2, false);
        due.is("clash(1, 2, true)", x.clash(1, 2, true), 1);
        due.is("clash(2, 1, false)", x.clash(2, 1, false), 1);
        due.is("clash(2, 1, true)", x.clash(2, 1, true), 1);
        due.is("clash(4, 0, true)", x.clash(4, 0, true), NightStalls.NUMBER);
        due.is("clash(0, 4, true)", x.clash(0, 4, true), NightStalls.NUMBER);
        due.is("clash(-1, 0, true)", x.clash(-1, 0, true), NightStalls.NUMBER);
        due.is("clash(0, -1, true)", x.clash(0, -1, true), NightStalls.NUMBER);
        due.is("clash(HIGH, LOW, true)", x.clash(HIGH, LOW, true), NightStalls.NUMBER);
    }

    private static void rule() {
        due.promise("6 rule");
        NightStalls x = new NightStalls();
        due.is("rule(0, 3)", x.rule(0, 3), 1);
        due.is("rule(0, 4)", x.rule(0, 4), NightStalls.NUMBER);
        due.is("rule(0, -1)", x.rule(0, -1), NightStalls.NUMBER);
        due.is("rule(0, 0)", x.rule(0, 0), 3);
        due.is("rule(0, 0)", x.rule(0, 0), 0);
        due.is("rule(1, 50)", x.rule(1, 50), 10);
        due.is("rule(1, 51)", x.rule(1, 51), NightStalls.NUMBER);
        due.is("rule(1, -1)", x.rule(1, -1), NightStalls.NUMBER);
        due.is("rule(1, 0)", x.rule(1, 0), 50);
        due.is("rule(1, 0)", x.rule(1, 0), 0);
        due.is("rule(2, 0)", x.rule(2, 0), NightStalls.NUMBER);
        due.is("rule(-1, 0)", x.rule(-1, 0), NightStalls.NUMBER);
        due.is("rule(HIGH, 0)", x.rule(HIGH, 0), NightStalls.NUMBER);
    }

    private static void stall() {
        due.promise("7 stall");
        NightStalls x = new NightStalls();
        int[] least = {0, 0, 0, 1, 1, 0};
        int[] most = {5, 3, 30, 9, 20, 99};
        for (int what = 0; what < 6; what++) {
            int[] low = least.clone();
            low[what]--;
            due.is("stall, too low " + what, come(x, low), NightStalls.NUMBER);
            int[] high = most.clone();
            high[what]++;
            due.is("stall, too high " + what, come(x, high), NightStalls.NUMBER);
            low[what] = LOW;
            due.is("stall, lowest " + what, come(x, low), NightStalls.NUMBER);
            high[what] = HIGH;
            due.is("stall, highest " + what, come(x, high), NightStalls.NUMBER);
        }
        due.is("many(1)", x.many(1), 0);
        due.is("stall(least)", come(x, least), 0);
        due.is("stall(most)", come(x, most), 1);
        for (int what = 0; what < 6; what++) {
            due.is("of(0, " + what + ")", x.of(0, what), least[what]);
            due.is("of(1, " + what + ")", x.of(1, what), most[what]);
        }
        due.is("stall, third", come(x, least), 2);
        due.is("stall, fourth", come(x, least), 3);
        due.is("stall, fifth", come(x, least), 4);
        due.is("stall, sixth", come(x, least), NightStalls.FULL);
        int[] wrong = {0, 0, 31, 1, 1, 0};
        due.is("stall, sixth and wrong", come(x, wrong), NightStalls.NUMBER);
        due.is("many(1)", x.many(1), 5);
    }

    private static int come(NightStalls x, int[] t) {
        return x.stall(t[0], t[1], t[2], t[3], t[4], t[5]);
    }

    private static void change() {
        due.promise("8 change");
        NightStalls x = new NightStalls();
        int[] at = {2, 1, 7, 4, 11, 50};
        int[] least = {0, 0, 0, 1, 1, 0};
        int[] most = {5, 3, 30, 9, 20, 99};
        come(x, least);
        come(x, at);
        for (int what = 0; what < 6; what++) {
            due.is("change too low", x.change(1, what, least[what] - 1), NightStalls.NUMBER);
            due.is("change too high", x.change(1, what, most[what] + 1), NightStalls.NUMBER);
            due.is("change lowest", x.change(1, what, LOW), NightStalls.NUMBER);
            due.is("change highest", x.change(1, what, HIGH), NightStalls.NUMBER);
            due.is("change to least", x.change(1, what, least[what]), at[what]);
            due.is("change to most", x.change(1, what, most[what]), least[what]);
            due.is("of", x.of(1, what), most[what]);
            due.is("of the other", x.of(0, what), least[what]);
        }
        due.is("change(1, 6, 1)", x.change(1, 6, 1), NightStalls.NUMBER);
        due.is("change(1, -1, 1)", x.change(1, -1, 1), NightStalls.NUMBER);
        due.is("change(1, LOW, 1)", x.change(1, LOW, 1), NightStalls.NUMBER);
        due.is("change(2, 0, 1)", x.change(2, 0, 1), NightStalls.NUMBER);
        due.is("change(-1, 0, 1)", x.change(-1, 0, 1), NightStalls.NUMBER);
        due.is("change(HIGH, 0, 1)", x.change(HIGH, 0, 1), NightStalls.NUMBER);
    }

    private static void stateAheadOfAllElse() {
        NightStalls x = new NightStalls();
        x.stall(0, 0, 0, 1, 1, 99);
        x.open(0);
        int[] numbers = {1, 99};
        for (int v : numbers) {
            due.promise("2 street");
            due.is("street while OPEN", x.street(v), NightStalls.STATE);
            due.promise("3 place");
            due.is("place while OPEN", x.place(v - 1, 2, 1), NightStalls.STATE);
            due.promise("4 limit");
            due.is("limit while OPEN", x.limit(v, 5), NightStalls.STATE);
            due.promise("5 clash");
            due.is("clash while OPEN", x.clash(v, 0, true), NightStalls.STATE);
            due.promise("6 rule");
            due.is("rule while OPEN", x.rule(1, v), NightStalls.STATE);
            due.promise("7 stall");
            due.is("stall while OPEN", x.stall(v, 0, 0, 1, 1, 0), NightStalls.STATE);
            due.promise("8 change");
            due.is("change while OPEN", x.change(v - 1, 2, 9), NightStalls.STATE);
        }
        x.shut();
        due.promise("refused calls change nothing");
        due.is("many(11)", x.many(11), 0);
        due.is("many(1)", x.many(1), 1);
        due.is("lineOf(1, 0)", x.lineOf(1, 0), 30);
        due.is("clash(1, 0, true)", x.clash(1, 0, true), 1);
        due.is("rule(1, 0)", x.rule(1, 0), 10);
        due.is("of(0, 2)", x.of(0, 2), 0);
    }
}
