/**
 * A street that is a market by night: who stands where, who is fed, which lines trip, what is
 * owed and who sold a dish when. The words in capitals are those of the document.
 */
public final class NightStalls {
    /** A number is none, or none that may be. */
    public static final int NUMBER = -1;
    /** There are as many as may be. */
    public static final int FULL = -2;
    /** A NIGHT is OPEN, or is not. */
    public static final int STATE = -3;
    /** There is none. */
    public static final int NONE = -4;
    /** A LINE has TRIPPED, has not, or would. */
    public static final int TRIPS = -5;

    private static final int MOST_PLACES = 8;
    private static final int MOST_STALLS = 5;
    private static final int MOST_GUESTS = 20;
    private static final int MOST_AT_STALL = 3;
    private static final int MOST_PATIENCE = 50;
    private static final int MOST_TICKS = 50;
    private static final int MOST_WATTS = 99;
    private static final int LINES = 3;
    private static final int FIRST_LIMIT = 30;
    private static final int SMELLS = 4;
    private static final int DISHES = 6;
    private static final int NIGHTS = 100;

    private static final int RENT = 0;
    private static final int LINE = 1;
    private static final int LANE = 2;
    private static final int PLACE_FACTS = 3;
    private static final int[] PLACE_FACT_MOST = {99, 2, 1};

    private static final int APART = 0;
    private static final int SHARE = 1;
    private static final int RULES = 2;
    private static final int FIRST_APART = 1;
    private static final int FIRST_SHARE = 10;
    private static final int[] RULE_MOST = {3, 50};

    private static final int DISH = 0;
    private static final int SMELL = 1;
    private static final int WATTS = 2;
    private static final int PACE = 3;
    private static final int PRICE = 4;
    private static final int PAPER = 5;
    private static final int TRAITS = 6;
    private static final int[] TRAIT_LEAST = {0, 0, 0, 1, 1, 0};
    private static final int[] TRAIT_MOST = {5, 3, 30, 9, 20, 99};

    private static final int WALKS = 0;
    private static final int WAITS = 1;
    private static final int COOKED_FOR = 2;
    private static final int FED = 3;
    private static final int ANGRY = 4;
    private static final int GONE = 5;

    private final Street theStreet;
    private final Night theNight;
    private final Plan thePlan;
    private final Street keptStreet;
    private final Night keptNight;
    private boolean isKept;

    public NightStalls() {
        theStreet = new Street();
        theNight = new Night(theStreet);
        thePlan = new Plan(theStreet);
        keptStreet = new Street();
        keptNight = new Night(keptStreet);
        isKept = false;
    }

    // ---- the street

    public int street(int n) {
        if (theNight.isOpen) {
            return STATE;
        }
        if (!isWithin(n, 1, MOST_PLACES)) {
            return NUMBER;
        }
        theStreet.layOut(n);
        theNight.clear();
        return n;
    }

    public int place(int place, int what, int v) {
        if (theNight.isOpen) {
            return STATE;
        }
        if (!theStreet.hasPlace(place) || !isWithin(what, 0, PLACE_FACTS - 1)) {
            return NUMBER;
        }
        if (!isWithin(v, 0, PLACE_FACT_MOST[what])) {
            return NUMBER;
        }
        return theStreet.setPlaceFact(place, what, v);
    }

    public int limit(int line, int v) {
        if (theNight.isOpen) {
            return STATE;
        }
        if (!isLine(line) || !isWithin(v, 0, MOST_WATTS)) {
            return NUMBER;
        }
        return theStreet.setLimit(line, v);
    }

    public int clash(int smell, int other, boolean is) {
        if (theNight.isOpen) {
            return STATE;
        }
        if (!isWithin(smell, 0, SMELLS - 1) || !isWithin(other, 0, SMELLS - 1)) {
            return NUMBER;
        }
        return theStreet.setClash(smell, other, is) ? 1 : 0;
    }

    public int rule(int what, int v) {
        if (theNight.isOpen) {
            return STATE;
        }
        if (!isWithin(what, 0, RULES - 1) || !isWithin(v, 0, RULE_MOST[what])) {
            return NUMBER;
        }
        return theStreet.setRule(what, v);
    }

    public int stall(int dish, int smell, int watts, int pace, int price, int paper) {
        if (theNight.isOpen) {
            return STATE;
        }
        if (!isTrait(DISH, dish) || !isTrait(SMELL, smell) || !isTrait(WATTS, watts)
                || !isTrait(PACE, pace) || !isTrait(PRICE, price) || !isTrait(PAPER, paper)) {
            return NUMBER;
        }
        if (theStreet.stalls >= MOST_STALLS) {
            return FULL;
        }
        int stall = theStreet.stalls;
        theStreet.stalls = stall + 1;
        theStreet.setTrait(stall, DISH, dish);
        theStreet.setTrait(stall, SMELL, smell);
        theStreet.setTrait(stall, WATTS, watts);
        theStreet.setTrait(stall, PACE, pace);
        theStreet.setTrait(stall, PRICE, price);
        theStreet.setTrait(stall, PAPER, paper);
        return stall;
    }

    public int change(int stall, int what, int v) {
        if (theNight.isOpen) {
            return STATE;
        }
        if (!theStreet.hasStall(stall) || !isTrait(what, v)) {
            return NUMBER;
        }
        return theStreet.setTrait(stall, what, v);
    }

    // ---- layouts

    public int layout(int night, int stall) {
        if (!isNight(night) || !theStreet.hasStall(stall)) {
            return NUMBER;
        }
        thePlan.find(night);
        return thePlan.placeOf(stall);
    }

    public int worth(int night) {
        if (!isNight(night)) {
            return NUMBER;
        }
        thePlan.find(night);
        return thePlan.bestRent;
    }

    // ---- the night

    public int open(int night) {
        if (theNight.isOpen) {
            return STATE;
        }
        if (!isNight(night)) {
            return NUMBER;
        }
        thePlan.find(night);
        theNight.clear();
        theNight.setUp(thePlan);
        theNight.isOpen = true;
        return theNight.standing();
    }

    public int shut() {
        if (!theNight.isOpen) {
            return STATE;
        }
        theNight.isOpen = false;
        return theNight.tick;
    }

    public int guest(int dish, int patience) {
        if (!theNight.isOpen) {
            return STATE;
        }
        if (!isWithin(dish, 0, DISHES - 1) || !isWithin(patience, 1, MOST_PATIENCE)) {
            return NUMBER;
        }
        if (theNight.guests.count >= MOST_GUESTS) {
            return FULL;
        }
        return theNight.guests.add(dish, patience);
    }

    public int go(int n) {
        if (!theNight.isOpen) {
            return STATE;
        }
        if (!isWithin(n, 1, MOST_TICKS)) {
            return NUMBER;
        }
        int sales = 0;
        for (int i = 0; i < n; i++) {
            sales += theNight.passTick();
        }
        return sales;
    }

    public int plug(int line, int v) {
        if (!theNight.isOpen) {
            return STATE;
        }
        if (!isLine(line) || !isWithin(v, 0, MOST_WATTS)) {
            return NUMBER;
        }
        if (theNight.tripped[line] == 1) {
            return TRIPS;
        }
        theNight.plugged[line] = v;
        theNight.tripped[line] = theNight.isOverLimit(line) ? 1 : 0;
        return theNight.tripped[line];
    }

    public int reset(int line) {
        if (!theNight.isOpen) {
            return STATE;
        }
        if (!isLine(line)) {
            return NUMBER;
        }
        if (theNight.tripped[line] == 0) {
            return NONE;
        }
        if (theNight.isOverLimit(line)) {
            return TRIPS;
        }
        theNight.tripped[line] = 0;
        return 1;
    }

    public int pull(int line) {
        if (!theNight.isOpen) {
            return STATE;
        }
        if (!isLine(line)) {
            return NUMBER;
        }
        int was = theNight.plugged[line];
        theNight.plugged[line] = 0;
        return was;
    }

    public int of(int stall, int what) {
        if (!theStreet.hasStall(stall)) {
            return NUMBER;
        }
        if (isWithin(what, 0, TRAITS - 1)) {
            return theStreet.trait(stall, what);
        }
        return theNight.stallFact(stall, what);
    }

    public int guestOf(int guest, int what) {
        if (!isWithin(guest, 0, theNight.guests.count - 1)) {
            return NUMBER;
        }
        return theNight.guests.fact(guest, what);
    }

    public int suspects(int dish, int from, int to) {
        if (!isWithin(dish, 0, DISHES - 1) || from < 0 || from > to) {
            return NUMBER;
        }
        return theNight.guests.sellers(dish, from, to);
    }

    public int lineOf(int line, int what) {
        if (!isLine(line)) {
            return NUMBER;
        }
        switch (what) {
            case 0:
                return theStreet.limitOf(line);
            case 1:
                return theNight.wattsOn(line);
            case 2:
                return theNight.plugged[line];
            case 3:
                return theNight.tripped[line];
            default:
                return NUMBER;
        }
    }

    public int many(int what) {
        switch (what) {
            case 0:
                return theStreet.places;
            case 1:
                return theStreet.stalls;
            case 2:
                return theNight.standing();
            case 3:
                return theNight.isOpen ? 1 : 0;
            case 4:
                return theNight.tick;
            case 5:
                return theNight.guests.count;
            case 6:
                return theNight.guests.countOf(FED);
            case 7:
                return theNight.guests.countOf(ANGRY);
            case 8:
                return theNight.guests.countOf(GONE);
            case 9:
                return theNight.allTook();
            case 10:
                return theNight.allBills();
            case 11:
                return theStreet.lanes();
            default:
                return NUMBER;
        }
    }

    // ---- kept

    public int keep() {
        keptStreet.become(theStreet);
        keptNight.become(theNight);
        isKept = true;
        return 1;
    }

    public int back() {
        if (!isKept) {
            return NONE;
        }
        theStreet.become(keptStreet);
        theNight.become(keptNight);
        return 1;
    }

    private static boolean isWithin(int v, int least, int most) {
        return v >= least && v <= most;
    }

    private static boolean isLine(int line) {
        return isWithin(line, 0, LINES - 1);
    }

    private static boolean isNight(int night) {
        return isWithin(night, 0, NIGHTS - 1);
    }

    private static boolean isTrait(int what, int v) {
        return isWithin(what, 0, TRAITS - 1) && isWithin(v, TRAIT_LEAST[what], TRAIT_MOST[what]);
    }

    private static void copyNumbers(int[] from, int[] to) {
        System.arraycopy(from, 0, to, 0, Math.min(from.length, to.length));
    }

    /** What is set by day: PLACES, LIMITS, SMELLS that CLASH, rules and STALLS. */
    private static final class Street {
        private int places;
        private int stalls;
        private final int[] placeFacts;
        private final int[] limits;
        private final int[] clashes;
        private final int[] rules;
        private final int[] traits;

        Street() {
            places = 1;
            stalls = 0;
            placeFacts = new int[MOST_PLACES * PLACE_FACTS];
            limits = new int[LINES];
            for (int line = 0; line < LINES; line++) {
                limits[line] = FIRST_LIMIT;
            }
            clashes = new int[SMELLS * SMELLS];
            rules = new int[RULES];
            rules[APART] = FIRST_APART;
            rules[SHARE] = FIRST_SHARE;
            traits = new int[MOST_STALLS * TRAITS];
        }

        void layOut(int n) {
            places = n;
            for (int i = 0; i < placeFacts.length; i++) {
                placeFacts[i] = 0;
            }
        }

        boolean hasPlace(int place) {
            return isWithin(place, 0, places - 1);
        }

        boolean hasStall(int stall) {
            return isWithin(stall, 0, stalls - 1);
        }

        int placeFact(int place, int what) {
            return placeFacts[place * PLACE_FACTS + what];
        }

        int setPlaceFact(int place, int what, int v) {
            int was = placeFact(place, what);
            placeFacts[place * PLACE_FACTS + what] = v;
            return was;
        }

        int rentOf(int place) {
            return placeFact(place, RENT);
        }

        int lineAt(int place) {
            return placeFact(place, LINE);
        }

        int lanes() {
            int lanes = 0;
            for (int place = 0; place < places; place++) {
                lanes += placeFact(place, LANE);
            }
            return lanes;
        }

        int limitOf(int line) {
            return limits[line];
        }

        int setLimit(int line, int v) {
            int was = limits[line];
            limits[line] = v;
            return was;
        }

        boolean doClash(int smell, int other) {
            return clashes[smell * SMELLS + other] == 1;
        }

        boolean setClash(int smell, int other, boolean is) {
            boolean isNew = doClash(smell, other) != is;
            clashes[smell * SMELLS + other] = is ? 1 : 0;
            clashes[other * SMELLS + smell] = is ? 1 : 0;
            return isNew;
        }

        int ruled(int what) {
            return rules[what];
        }

        int setRule(int what, int v) {
            int was = rules[what];
            rules[what] = v;
            return was;
        }

        int trait(int stall, int what) {
            return traits[stall * TRAITS + what];
        }

        int setTrait(int stall, int what, int v) {
            int was = trait(stall, what);
            traits[stall * TRAITS + what] = v;
            return was;
        }

        boolean mayStand(int stall, int night) {
            return night <= trait(stall, PAPER);
        }

        void become(Street other) {
            places = other.places;
            stalls = other.stalls;
            copyNumbers(other.placeFacts, placeFacts);
            copyNumbers(other.limits, limits);
            copyNumbers(other.clashes, clashes);
            copyNumbers(other.rules, rules);
            copyNumbers(other.traits, traits);
        }
    }

    /**
     * The search for THE LAYOUT. STALLS are tried by their numbers, each on PLACES from the least
     * on and with nothing last: so, of LAYOUTS that are as good, the one that is due is found
     * first, and only a better one may replace it.
     */
    private static final class Plan {
        private final Street street;
        private final int[] trial;
        private final int[] best;
        private final int[] closed;
        private final int[] ranked;
        private int bestRent;
        private int bestCount;

        Plan(Street street) {
            this.street = street;
            trial = new int[MOST_STALLS];
            best = new int[MOST_STALLS];
            closed = new int[MOST_PLACES];
            ranked = new int[MOST_PLACES];
            bestRent = NONE;
            bestCount = NONE;
        }

        int placeOf(int stall) {
            return best[stall];
        }

        void find(int night) {
            bestRent = NONE;
            bestCount = NONE;
            for (int stall = 0; stall < MOST_STALLS; stall++) {
                trial[stall] = NONE;
                best[stall] = NONE;
            }
            for (int place = 0; place < street.places; place++) {
                closed[place] = street.placeFact(place, LANE);
                rank(place);
            }
            tryFrom(0, night, 0, 0);
        }

        /** Puts a PLACE among those before it, which are ranked by RENT, highest first. */
        private void rank(int place) {
            int at = place;
            while (at > 0 && street.rentOf(ranked[at - 1]) < street.rentOf(place)) {
                ranked[at] = ranked[at - 1];
                at--;
            }
            ranked[at] = place;
        }

        private void tryFrom(int stall, int night, int rent, int count) {
            if (stall >= street.stalls) {
                judge(rent, count);
                return;
            }
            int rest = street.stalls - stall;
            if (!isBetter(rent + mostRent(rest), count + rest)) {
                return;
            }
            if (street.mayStand(stall, night)) {
                tryPlaces(stall, night, rent, count);
            }
            tryFrom(stall + 1, night, rent, count);
        }

        private void tryPlaces(int stall, int night, int rent, int count) {
            for (int place = 0; place < street.places; place++) {
                if (fits(stall, place)) {
                    trial[stall] = place;
                    closed[place] = 1;
                    tryFrom(stall + 1, night, rent + street.rentOf(place), count + 1);
                    closed[place] = 0;
                }
            }
            trial[stall] = NONE;
        }

        /** What so many STALLS more could bring if nothing but free PLACES bound them. */
        private int mostRent(int rest) {
            int sum = 0;
            int counted = 0;
            for (int i = 0; i < street.places && counted < rest; i++) {
                if (closed[ranked[i]] == 0) {
                    sum += street.rentOf(ranked[i]);
                    counted++;
                }
            }
            return sum;
        }

        private boolean isBetter(int rent, int count) {
            return rent > bestRent || rent == bestRent && count > bestCount;
        }

        private void judge(int rent, int count) {
            if (isBetter(rent, count)) {
                bestRent = rent;
                bestCount = count;
                copyNumbers(trial, best);
            }
        }

        private boolean fits(int stall, int place) {
            if (closed[place] == 1) {
                return false;
            }
            int line = street.lineAt(place);
            int watts = street.trait(stall, WATTS);
            for (int other = 0; other < stall; other++) {
                int otherPlace = trial[other];
                if (otherPlace != NONE) {
                    if (!bear(stall, other, Math.abs(place - otherPlace))) {
                        return false;
                    }
                    if (street.lineAt(otherPlace) == line) {
                        watts += street.trait(other, WATTS);
                    }
                }
            }
            return watts <= street.limitOf(line);
        }

        /** Whether two STALLS may stand so far from one another. */
        private boolean bear(int stall, int other, int distance) {
            if (distance <= street.ruled(APART)
                    && street.trait(stall, DISH) == street.trait(other, DISH)) {
                return false;
            }
            return distance != 1
                    || !street.doClash(street.trait(stall, SMELL), street.trait(other, SMELL));
        }
    }

    /** What a NIGHT brings: where STALLS stand, what they sold, LINES and GUESTS. */
    private static final class Night {
        private final Street street;
        private final Guests guests;
        private boolean isOpen;
        private int tick;
        private final int[] stands;
        private final int[] sales;
        private final int[] took;
        private final int[] left;
        private final int[] plugged;
        private final int[] tripped;

        Night(Street street) {
            this.street = street;
            guests = new Guests();
            stands = new int[MOST_STALLS];
            sales = new int[MOST_STALLS];
            took = new int[MOST_STALLS];
            left = new int[MOST_STALLS];
            plugged = new int[LINES];
            tripped = new int[LINES];
            for (int stall = 0; stall < MOST_STALLS; stall++) {
                stands[stall] = NONE;
            }
        }

        void clear() {
            tick = 0;
            guests.count = 0;
            for (int stall = 0; stall < MOST_STALLS; stall++) {
                stands[stall] = NONE;
                sales[stall] = 0;
                took[stall] = 0;
                left[stall] = 0;
            }
            for (int line = 0; line < LINES; line++) {
                plugged[line] = 0;
                tripped[line] = 0;
            }
        }

        void setUp(Plan plan) {
            for (int stall = 0; stall < MOST_STALLS; stall++) {
                stands[stall] = plan.placeOf(stall);
            }
        }

        int standing() {
            int count = 0;
            for (int stall = 0; stall < MOST_STALLS; stall++) {
                if (stands[stall] != NONE) {
                    count++;
                }
            }
            return count;
        }

        int wattsOn(int line) {
            int watts = 0;
            for (int stall = 0; stall < MOST_STALLS; stall++) {
                if (stands[stall] != NONE && street.lineAt(stands[stall]) == line) {
                    watts += street.trait(stall, WATTS);
                }
            }
            return watts;
        }

        boolean isOverLimit(int line) {
            return plugged[line] + wattsOn(line) > street.limitOf(line);
        }

        int stallFact(int stall, int what) {
            switch (what) {
                case 6:
                    return stands[stall];
                case 7:
                    return sales[stall];
                case 8:
                    return took[stall];
                case 9:
                    return guests.countAt(stall);
                case 10:
                    return left[stall];
                case 11:
                    return billOf(stall);
                default:
                    return NUMBER;
            }
        }

        int billOf(int stall) {
            if (stands[stall] == NONE) {
                return 0;
            }
            return street.rentOf(stands[stall]) + took[stall] * street.ruled(SHARE) / 100;
        }

        int allTook() {
            int sum = 0;
            for (int stall = 0; stall < MOST_STALLS; stall++) {
                sum += took[stall];
            }
            return sum;
        }

        int allBills() {
            int sum = 0;
            for (int stall = 0; stall < MOST_STALLS; stall++) {
                sum += billOf(stall);
            }
            return sum;
        }

        int passTick() {
            int sold = cookOn();
            startCooking();
            guests.losePatience();
            walkOn();
            tick++;
            return sold;
        }

        private boolean works(int stall) {
            return stands[stall] != NONE && tripped[street.lineAt(stands[stall])] == 0;
        }

        private int cookOn() {
            int sold = 0;
            for (int stall = 0; stall < MOST_STALLS; stall++) {
                if (left[stall] > 0 && works(stall)) {
                    left[stall]--;
                    if (left[stall] == 0) {
                        sell(stall);
                        sold++;
                    }
                }
            }
            return sold;
        }

        private void sell(int stall) {
            guests.feed(guests.firstAt(stall, COOKED_FOR), tick);
            sales[stall]++;
            // Kept as a sum, since the PRICE may be changed once the NIGHT is shut.
            took[stall] += street.trait(stall, PRICE);
        }

        private void startCooking() {
            for (int stall = 0; stall < MOST_STALLS; stall++) {
                if (left[stall] == 0 && works(stall)) {
                    int guest = guests.firstAt(stall, WAITS);
                    if (guest != NONE) {
                        guests.state[guest] = COOKED_FOR;
                        left[stall] = street.trait(stall, PACE);
                    }
                }
            }
        }

        private void walkOn() {
            for (int guest = 0; guest < guests.count; guest++) {
                if (guests.state[guest] == WALKS) {
                    int stall = stallFor(guest);
                    if (stall != NONE) {
                        guests.queue(guest, stall);
                    } else {
                        guests.step(guest, street.places);
                    }
                }
            }
        }

        /** The STALL at which a GUEST that WALKS may WAIT where it is now. */
        private int stallFor(int guest) {
            for (int stall = 0; stall < MOST_STALLS; stall++) {
                if (stands[stall] == guests.place[guest] && works(stall)
                        && street.trait(stall, DISH) == guests.dish[guest]
                        && guests.countAt(stall) < MOST_AT_STALL) {
                    return stall;
                }
            }
            return NONE;
        }

        void become(Night other) {
            isOpen = other.isOpen;
            tick = other.tick;
            guests.become(other.guests);
            copyNumbers(other.stands, stands);
            copyNumbers(other.sales, sales);
            copyNumbers(other.took, took);
            copyNumbers(other.left, left);
            copyNumbers(other.plugged, plugged);
            copyNumbers(other.tripped, tripped);
        }
    }

    /** The GUESTS of a NIGHT, each a number in rows that are as long as GUESTS may be many. */
    private static final class Guests {
        private int count;
        private final int[] state;
        private final int[] place;
        private final int[] patience;
        private final int[] dish;
        private final int[] stall;
        private final int[] fedIn;

        Guests() {
            state = new int[MOST_GUESTS];
            place = new int[MOST_GUESTS];
            patience = new int[MOST_GUESTS];
            dish = new int[MOST_GUESTS];
            stall = new int[MOST_GUESTS];
            fedIn = new int[MOST_GUESTS];
        }

        int add(int wanted, int bears) {
            int guest = count;
            count = guest + 1;
            state[guest] = WALKS;
            place[guest] = 0;
            patience[guest] = bears;
            dish[guest] = wanted;
            stall[guest] = NONE;
            fedIn[guest] = NONE;
            return guest;
        }

        int fact(int guest, int what) {
            switch (what) {
                case 0:
                    return state[guest];
                case 1:
                    return place[guest];
                case 2:
                    return patience[guest];
                case 3:
                    return dish[guest];
                case 4:
                    return stall[guest];
                default:
                    return NUMBER;
            }
        }

        int countOf(int wanted) {
            int found = 0;
            for (int guest = 0; guest < count; guest++) {
                if (state[guest] == wanted) {
                    found++;
                }
            }
            return found;
        }

        int countAt(int where) {
            int found = 0;
            for (int guest = 0; guest < count; guest++) {
                if (stall[guest] == where
                        && (state[guest] == WAITS || state[guest] == COOKED_FOR)) {
                    found++;
                }
            }
            return found;
        }

        /**
         * The first GUEST of a state at a STALL. All walk alike from PLACE 0 on, so nobody comes
         * to a STALL ahead of one with a lesser number: the line there is in the order of numbers.
         */
        int firstAt(int where, int wanted) {
            for (int guest = 0; guest < count; guest++) {
                if (stall[guest] == where && state[guest] == wanted) {
                    return guest;
                }
            }
            return NONE;
        }

        void queue(int guest, int where) {
            state[guest] = WAITS;
            stall[guest] = where;
        }

        void step(int guest, int places) {
            place[guest]++;
            if (place[guest] >= places) {
                state[guest] = GONE;
                place[guest] = NONE;
            }
        }

        void feed(int guest, int tick) {
            if (guest == NONE) {
                return;
            }
            state[guest] = FED;
            place[guest] = NONE;
            fedIn[guest] = tick;
        }

        void losePatience() {
            for (int guest = 0; guest < count; guest++) {
                if (state[guest] == WAITS) {
                    patience[guest]--;
                    if (patience[guest] == 0) {
                        state[guest] = ANGRY;
                        place[guest] = NONE;
                        stall[guest] = NONE;
                    }
                }
            }
        }

        /** A SALE is its GUEST: what it wanted is what was sold, whatever the STALL sells now. */
        int sellers(int wanted, int from, int to) {
            int bits = 0;
            for (int guest = 0; guest < count; guest++) {
                if (state[guest] == FED && dish[guest] == wanted
                        && fedIn[guest] >= from && fedIn[guest] <= to) {
                    bits |= 1 << stall[guest];
                }
            }
            return bits;
        }

        void become(Guests other) {
            count = other.count;
            copyNumbers(other.state, state);
            copyNumbers(other.place, place);
            copyNumbers(other.patience, patience);
            copyNumbers(other.dish, dish);
            copyNumbers(other.stall, stall);
            copyNumbers(other.fedIn, fedIn);
        }
    }
}
