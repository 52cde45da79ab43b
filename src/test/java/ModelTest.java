import java.util.Random;

/**
 * All promises: runs of calls, the same ones always, held against the Model. An object is used for
 * 512 calls at most: so every other run is that long, and the others end with all that is told.
 */
public final class ModelTest {
    private static final Due due = new Due();
    private static final int RUNS = 800;
    private static final int LONG_RUN = 512;
    private static final int SHORT_RUN = 200;
    private static final int[] ODD = {Integer.MIN_VALUE, -5, -1, 100, Integer.MAX_VALUE};

    private final Random random;
    private final NightStalls x = new NightStalls();
    private final Model m = new Model();
    private final int dishes;

    private ModelTest(int seed) {
        random = new Random(seed);
        dishes = 1 + random.nextInt(6);
    }

    public static void main(String[] args) {
        for (int run = 0; run < RUNS; run++) {
            due.promise("run " + run);
            ModelTest test = new ModelTest(run);
            boolean isLong = run % 2 == 0;
            for (int i = 0; i < (isLong ? LONG_RUN : SHORT_RUN); i++) {
                test.call(i);
            }
            if (!isLong) {
                test.compareAll();
            }
        }
        due.end();
    }

    /** Mostly a number from least to most, now and then one beside them or far off. */
    private int pick(int least, int most) {
        int dice = random.nextInt(60);
        if (dice == 0) return least - 1;
        if (dice == 1) return most + 1;
        if (dice == 2) return ODD[random.nextInt(ODD.length)];
        if (dice == 3) return least;
        if (dice == 4) return most;
        return least + random.nextInt(most - least + 1);
    }

    private int dish() {
        return random.nextInt(20) == 0 ? pick(0, 5) : random.nextInt(dishes);
    }

    private void call(int i) {
        int dice = random.nextInt(100);
        if (i < 40 || !m.open && dice < 45) {
            day(random.nextInt(30));
        } else if (dice < 80) {
            night(random.nextInt(40));
        } else if (dice < 97) {
            tell(random.nextInt(20));
        } else {
            keepOrBack();
        }
    }

    private void day(int dice) {
        if (dice == 0) {
            int n = random.nextInt(3) == 0 ? pick(1, 8) : 6 + random.nextInt(3);
            due.is("street " + n, x.street(n), m.street(n));
        } else if (dice < 12) {
            int what = pick(0, 2);
            int v = what == 2 ? (random.nextInt(4) == 0 ? pick(0, 1) : 0)
                    : pick(0, what == 0 ? 99 : 2);
            if (what == 0 && random.nextBoolean()) v = random.nextInt(4);
            int p = pick(0, m.places.size() - 1);
            due.is("place " + p + " " + what + " " + v, x.place(p, what, v), m.place(p, what, v));
        } else if (dice < 14) {
            int line = pick(0, 2);
            int v = pick(0, 99);
            due.is("limit " + line + " " + v, x.limit(line, v), m.limit(line, v));
        } else if (dice < 17) {
            int a = pick(0, 3);
            int b = pick(0, 3);
            boolean is = random.nextInt(3) == 0;
            due.is("clash " + a + " " + b + " " + is, x.clash(a, b, is), m.clash(a, b, is));
        } else if (dice < 19) {
            int what = pick(0, 1);
            int v = what == 0 ? pick(0, 3) : pick(0, 50);
            due.is("rule " + what + " " + v, x.rule(what, v), m.rule(what, v));
        } else if (dice < 24) {
            int[] t = {dish(), pick(0, 3), pick(0, 30), pick(1, 9), pick(1, 20), pick(0, 99)};
            due.is("stall", x.stall(t[0], t[1], t[2], t[3], t[4], t[5]), m.stall(t));
        } else {
            int[] least = {0, 0, 0, 1, 1, 0};
            int[] most = {5, 3, 30, 9, 20, 99};
            int what = pick(0, 5);
            int v = what < 0 || what > 5 ? 1 : pick(least[what], most[what]);
            int s = pick(0, Math.max(0, m.stalls.size() - 1));
            due.is("change " + s + " " + what + " " + v, x.change(s, what, v),
                    m.change(s, what, v));
        }
    }

    private void night(int dice) {
        if (dice < 2 || !m.open && dice < 10) {
            int night = random.nextBoolean() ? pick(0, 99) : random.nextInt(10);
            due.is("open " + night, x.open(night), m.open(night));
        } else if (dice == 2) {
            due.is("shut", x.shut(), m.shut());
        } else if (dice < 18) {
            int d = dish();
            int patience = random.nextBoolean() ? pick(1, 50) : pick(1, 6);
            due.is("guest " + d + " " + patience, x.guest(d, patience), m.guest(d, patience));
        } else if (dice < 34) {
            int n = random.nextInt(4) == 0 ? pick(1, 50) : pick(1, 3);
            due.is("go " + n, x.go(n), m.go(n));
        } else if (dice < 36) {
            int line = pick(0, 2);
            int v = pick(0, 99);
            due.is("plug " + line + " " + v, x.plug(line, v), m.plug(line, v));
        } else if (dice < 38) {
            int line = pick(0, 2);
            due.is("reset " + line, x.reset(line), m.reset(line));
        } else {
            int line = pick(0, 2);
            due.is("pull " + line, x.pull(line), m.pull(line));
        }
    }

    private void tell(int dice) {
        int s = pick(0, Math.max(0, m.stalls.size() - 1));
        if (dice == 0) {
            int night = pick(0, 99);
            due.is("layout " + night + " " + s, x.layout(night, s), m.layout(night, s));
        } else if (dice == 1) {
            int night = pick(0, 99);
            due.is("worth " + night, x.worth(night), m.worth(night));
        } else if (dice < 8) {
            int what = pick(0, 11);
            due.is("of " + s + " " + what, x.of(s, what), m.of(s, what));
        } else if (dice < 12) {
            int g = pick(0, 19);
            int what = pick(0, 4);
            due.is("guestOf " + g + " " + what, x.guestOf(g, what), m.guestOf(g, what));
        } else if (dice < 15) {
            int d = dish();
            int from = pick(0, m.tick);
            int to = pick(0, m.tick);
            due.is("suspects " + d + " " + from + " " + to, x.suspects(d, from, to),
                    m.suspects(d, from, to));
        } else if (dice < 17) {
            int line = pick(0, 2);
            int what = pick(0, 3);
            due.is("lineOf " + line + " " + what, x.lineOf(line, what), m.lineOf(line, what));
        } else {
            int what = pick(0, 11);
            due.is("many " + what, x.many(what), m.many(what));
        }
    }

    private void keepOrBack() {
        if (random.nextInt(3) == 0) {
            due.is("back", x.back(), m.back());
        } else {
            due.is("keep", x.keep(), m.keep());
        }
    }

    private void compareAll() {
        for (int what = -1; what <= 12; what++) {
            due.is("all: many " + what, x.many(what), m.many(what));
            for (int s = -1; s <= 5; s++) {
                due.is("all: of " + s + " " + what, x.of(s, what), m.of(s, what));
            }
        }
        for (int what = -1; what <= 5; what++) {
            for (int g = -1; g <= 20; g++) {
                due.is("all: guestOf " + g + " " + what, x.guestOf(g, what), m.guestOf(g, what));
            }
            for (int line = -1; line <= 3; line++) {
                due.is("all: lineOf " + line + " " + what, x.lineOf(line, what),
                        m.lineOf(line, what));
            }
        }
        for (int d = 0; d < 6; d++) {
            due.is("all: suspects " + d, x.suspects(d, 0, 99999), m.suspects(d, 0, 99999));
        }
    }
}
