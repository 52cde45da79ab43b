import java.util.ArrayList;
import java.util.List;

/**
 * The document once more, as plainly as it can be said and without regard to time or room: lines
 * of GUESTS are lists, SALES are a list, and THE LAYOUT is picked from all that there are.
 */
final class Model {
    static final int NUMBER = -1;
    static final int FULL = -2;
    static final int STATE = -3;
    static final int NONE = -4;
    static final int TRIPS = -5;

    static final class Place {
        int rent;
        int line;
        int lane;
    }

    static final class Stall {
        int[] traits;
        int place = NONE;
        int left = 0;
        List<Guest> line = new ArrayList<>();
    }

    static final class Guest {
        int state = 0;
        int place = 0;
        int patience;
        int dish;
        int stall = NONE;
    }

    record Sale(int tick, int stall, int dish, int price) { }

    List<Place> places = new ArrayList<>(List.of(new Place()));
    List<Stall> stalls = new ArrayList<>();
    List<Guest> guests = new ArrayList<>();
    List<Sale> sales = new ArrayList<>();
    int[] limits = {30, 30, 30};
    int[] plugged = new int[3];
    boolean[] tripped = new boolean[3];
    boolean[][] clashes = new boolean[4][4];
    int apart = 1;
    int share = 10;
    boolean open = false;
    int tick = 0;
    Model kept = null;

    private static boolean in(int v, int least, int most) {
        return least <= v && v <= most;
    }

    // ---- the street

    int street(int n) {
        if (open) return STATE;
        if (!in(n, 1, 8)) return NUMBER;
        places.clear();
        for (int i = 0; i < n; i++) places.add(new Place());
        freshNight();
        return n;
    }

    private void freshNight() {
        for (Stall s : stalls) {
            s.place = NONE;
            s.left = 0;
            s.line.clear();
        }
        guests.clear();
        sales.clear();
        plugged = new int[3];
        tripped = new boolean[3];
        tick = 0;
    }

    int place(int place, int what, int v) {
        if (open) return STATE;
        if (!in(place, 0, places.size() - 1)) return NUMBER;
        Place p = places.get(place);
        int was;
        if (what == 0 && in(v, 0, 99)) {
            was = p.rent;
            p.rent = v;
        } else if (what == 1 && in(v, 0, 2)) {
            was = p.line;
            p.line = v;
        } else if (what == 2 && in(v, 0, 1)) {
            was = p.lane;
            p.lane = v;
        } else {
            return NUMBER;
        }
        return was;
    }

    int limit(int line, int v) {
        if (open) return STATE;
        if (!in(line, 0, 2) || !in(v, 0, 99)) return NUMBER;
        int was = limits[line];
        limits[line] = v;
        return was;
    }

    int clash(int smell, int other, boolean is) {
        if (open) return STATE;
        if (!in(smell, 0, 3) || !in(other, 0, 3)) return NUMBER;
        boolean was = clashes[smell][other];
        clashes[smell][other] = is;
        clashes[other][smell] = is;
        return was == is ? 0 : 1;
    }

    int rule(int what, int v) {
        if (open) return STATE;
        if (what == 0 && in(v, 0, 3)) {
            int was = apart;
            apart = v;
            return was;
        }
        if (what == 1 && in(v, 0, 50)) {
            int was = share;
            share = v;
            return was;
        }
        return NUMBER;
    }

    private static boolean may(int what, int v) {
        switch (what) {
            case 0: return in(v, 0, 5);
            case 1: return in(v, 0, 3);
            case 2: return in(v, 0, 30);
            case 3: return in(v, 1, 9);
            case 4: return in(v, 1, 20);
            case 5: return in(v, 0, 99);
            default: return false;
        }
    }

    int stall(int... traits) {
        if (open) return STATE;
        for (int what = 0; what < 6; what++) {
            if (!may(what, traits[what])) return NUMBER;
        }
        if (stalls.size() == 5) return FULL;
        Stall s = new Stall();
        s.traits = traits;
        stalls.add(s);
        return stalls.size() - 1;
    }

    int change(int stall, int what, int v) {
        if (open) return STATE;
        if (!in(stall, 0, stalls.size() - 1) || !may(what, v)) return NUMBER;
        int was = stalls.get(stall).traits[what];
        stalls.get(stall).traits[what] = v;
        return was;
    }

    // ---- layouts: places.size() stands for nothing, so that it is behind all

    private int[] best(int night) {
        int count = stalls.size();
        int[] at = new int[count];
        int[] best = null;
        while (true) {
            if (isLayout(at, night) && (best == null || beats(at, best))) best = at.clone();
            int i = count - 1;
            while (i >= 0 && at[i] == places.size()) at[i--] = 0;
            if (i < 0) return best;
            at[i]++;
        }
    }

    private boolean isLayout(int[] at, int night) {
        int[] watts = new int[3];
        int none = places.size();
        for (int i = 0; i < at.length; i++) {
            if (at[i] == none) continue;
            int[] a = stalls.get(i).traits;
            Place p = places.get(at[i]);
            if (a[5] < night || p.lane == 1) return false;
            watts[p.line] += a[2];
            for (int j = i + 1; j < at.length; j++) {
                if (at[j] == none) continue;
                int[] b = stalls.get(j).traits;
                int far = Math.abs(at[i] - at[j]);
                if (far == 0) return false;
                if (a[0] == b[0] && !(far > apart)) return false;
                if (far == 1 && clashes[a[1]][b[1]]) return false;
            }
        }
        for (int line = 0; line < 3; line++) {
            if (watts[line] > limits[line]) return false;
        }
        return true;
    }

    private int rentOf(int[] at) {
        int sum = 0;
        for (int p : at) sum += p == places.size() ? 0 : places.get(p).rent;
        return sum;
    }

    private int countOf(int[] at) {
        int count = 0;
        for (int p : at) count += p == places.size() ? 0 : 1;
        return count;
    }

    private boolean beats(int[] a, int[] b) {
        if (rentOf(a) != rentOf(b)) return rentOf(a) > rentOf(b);
        if (countOf(a) != countOf(b)) return countOf(a) > countOf(b);
        for (int i = 0; i < a.length; i++) {
            if (a[i] != b[i]) return a[i] < b[i];
        }
        return false;
    }

    int layout(int night, int stall) {
        if (!in(night, 0, 99) || !in(stall, 0, stalls.size() - 1)) return NUMBER;
        int p = best(night)[stall];
        return p == places.size() ? NONE : p;
    }

    int worth(int night) {
        return in(night, 0, 99) ? rentOf(best(night)) : NUMBER;
    }

    // ---- the night

    int open(int night) {
        if (open) return STATE;
        if (!in(night, 0, 99)) return NUMBER;
        int[] at = best(night);
        freshNight();
        for (int i = 0; i < at.length; i++) {
            if (at[i] < places.size()) stalls.get(i).place = at[i];
        }
        open = true;
        return countOf(at);
    }

    int shut() {
        if (!open) return STATE;
        open = false;
        return tick;
    }

    int guest(int dish, int patience) {
        if (!open) return STATE;
        if (!in(dish, 0, 5) || !in(patience, 1, 50)) return NUMBER;
        if (guests.size() == 20) return FULL;
        Guest g = new Guest();
        g.dish = dish;
        g.patience = patience;
        guests.add(g);
        return guests.size() - 1;
    }

    int go(int n) {
        if (!open) return STATE;
        if (!in(n, 1, 50)) return NUMBER;
        int before = sales.size();
        for (int i = 0; i < n; i++) tick();
        return sales.size() - before;
    }

    private boolean runs(Stall s) {
        return s.place != NONE && !tripped[places.get(s.place).line];
    }

    private void tick() {
        for (int i = 0; i < stalls.size(); i++) {
            Stall s = stalls.get(i);
            if (s.left == 0 || !runs(s)) continue;
            s.left--;
            if (s.left == 0) {
                Guest g = s.line.remove(0);
                g.state = 3;
                sales.add(new Sale(tick, i, s.traits[0], s.traits[4]));
            }
        }
        for (Stall s : stalls) {
            if (s.left == 0 && runs(s) && !s.line.isEmpty()) {
                s.line.get(0).state = 2;
                s.left = s.traits[3];
            }
        }
        for (Guest g : guests) {
            if (g.state == 1 && --g.patience == 0) {
                g.state = 4;
                stalls.get(g.stall).line.remove(g);
                g.stall = NONE;
            }
        }
        for (Guest g : guests) {
            if (g.state == 0) walk(g);
        }
        tick++;
    }

    private void walk(Guest g) {
        for (int i = 0; i < stalls.size(); i++) {
            Stall s = stalls.get(i);
            if (s.place == g.place && s.traits[0] == g.dish && runs(s) && s.line.size() < 3) {
                g.state = 1;
                g.stall = i;
                s.line.add(g);
                return;
            }
        }
        g.place++;
        if (g.place == places.size()) g.state = 5;
    }

    private int wattsOn(int line) {
        int sum = 0;
        for (Stall s : stalls) {
            if (s.place != NONE && places.get(s.place).line == line) sum += s.traits[2];
        }
        return sum;
    }

    int plug(int line, int v) {
        if (!open) return STATE;
        if (!in(line, 0, 2) || !in(v, 0, 99)) return NUMBER;
        if (tripped[line]) return TRIPS;
        plugged[line] = v;
        tripped[line] = v + wattsOn(line) > limits[line];
        return tripped[line] ? 1 : 0;
    }

    int reset(int line) {
        if (!open) return STATE;
        if (!in(line, 0, 2)) return NUMBER;
        if (!tripped[line]) return NONE;
        if (plugged[line] + wattsOn(line) > limits[line]) return TRIPS;
        tripped[line] = false;
        return 1;
    }

    int pull(int line) {
        if (!open) return STATE;
        if (!in(line, 0, 2)) return NUMBER;
        int was = plugged[line];
        plugged[line] = 0;
        return was;
    }

    private int took(int stall) {
        return sales.stream().filter(s -> s.stall() == stall).mapToInt(Sale::price).sum();
    }

    private int bill(int stall) {
        int place = stalls.get(stall).place;
        return place == NONE ? 0 : places.get(place).rent + took(stall) * share / 100;
    }

    int of(int stall, int what) {
        if (!in(stall, 0, stalls.size() - 1) || !in(what, 0, 11)) return NUMBER;
        Stall s = stalls.get(stall);
        switch (what) {
            case 6: return s.place;
            case 7: return (int) sales.stream().filter(x -> x.stall() == stall).count();
            case 8: return took(stall);
            case 9: return s.line.size();
            case 10: return s.left;
            case 11: return bill(stall);
            default: return s.traits[what];
        }
    }

    int guestOf(int guest, int what) {
        if (!in(guest, 0, guests.size() - 1)) return NUMBER;
        Guest g = guests.get(guest);
        switch (what) {
            case 0: return g.state;
            case 1: return g.state >= 3 ? NONE : g.place;
            case 2: return g.patience;
            case 3: return g.dish;
            case 4: return g.stall;
            default: return NUMBER;
        }
    }

    int suspects(int dish, int from, int to) {
        if (!in(dish, 0, 5) || from < 0 || from > to) return NUMBER;
        int bits = 0;
        for (Sale s : sales) {
            if (s.dish() == dish && in(s.tick(), from, to)) bits |= 1 << s.stall();
        }
        return bits;
    }

    int lineOf(int line, int what) {
        if (!in(line, 0, 2) || !in(what, 0, 3)) return NUMBER;
        return new int[] {limits[line], wattsOn(line), plugged[line], tripped[line] ? 1 : 0}[what];
    }

    private int inState(int state) {
        return (int) guests.stream().filter(g -> g.state == state).count();
    }

    int many(int what) {
        int all = 0;
        switch (what) {
            case 0: return places.size();
            case 1: return stalls.size();
            case 2: return (int) stalls.stream().filter(s -> s.place != NONE).count();
            case 3: return open ? 1 : 0;
            case 4: return tick;
            case 5: return guests.size();
            case 6: return inState(3);
            case 7: return inState(4);
            case 8: return inState(5);
            case 9: return sales.stream().mapToInt(Sale::price).sum();
            case 10:
                for (int i = 0; i < stalls.size(); i++) all += bill(i);
                return all;
            case 11: return (int) places.stream().filter(p -> p.lane == 1).count();
            default: return NUMBER;
        }
    }

    // ---- kept

    int keep() {
        kept = new Model();
        kept.take(this);
        return 1;
    }

    int back() {
        if (kept == null) return NONE;
        take(kept);
        return 1;
    }

    private void take(Model from) {
        places = new ArrayList<>();
        for (Place p : from.places) {
            Place copy = new Place();
            copy.rent = p.rent;
            copy.line = p.line;
            copy.lane = p.lane;
            places.add(copy);
        }
        guests = new ArrayList<>();
        for (Guest g : from.guests) {
            Guest copy = new Guest();
            copy.state = g.state;
            copy.place = g.place;
            copy.patience = g.patience;
            copy.dish = g.dish;
            copy.stall = g.stall;
            guests.add(copy);
        }
        stalls = new ArrayList<>();
        for (Stall s : from.stalls) {
            Stall copy = new Stall();
            copy.traits = s.traits.clone();
            copy.place = s.place;
            copy.left = s.left;
            for (Guest g : s.line) copy.line.add(guests.get(from.guests.indexOf(g)));
            stalls.add(copy);
        }
        sales = new ArrayList<>(from.sales);
        limits = from.limits.clone();
        plugged = from.plugged.clone();
        tripped = from.tripped.clone();
        for (int i = 0; i < 4; i++) clashes[i] = from.clashes[i].clone();
        apart = from.apart;
        share = from.share;
        open = from.open;
        tick = from.tick;
    }
}
