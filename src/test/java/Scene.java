/** Objects that have come some way, each made anew by the same calls: two of one scene are alike. */
enum Scene {
    /** A new object. */
    NEW {
        @Override
        NightStalls make() {
            return new NightStalls();
        }
    },
    /** By day: four PLACES, three STALLS; kept is what was before the third came. */
    DAY {
        @Override
        NightStalls make() {
            NightStalls x = new NightStalls();
            x.street(4);
            x.place(0, 0, 10);
            x.place(1, 0, 99);
            x.place(1, 2, 1);
            x.place(2, 0, 20);
            x.place(2, 1, 1);
            x.place(3, 0, 5);
            x.place(3, 1, 2);
            x.limit(0, 40);
            x.limit(2, 50);
            x.clash(0, 1, true);
            x.clash(2, 2, true);
            x.rule(0, 2);
            x.rule(1, 25);
            x.stall(0, 0, 10, 2, 9, 99);
            x.stall(1, 1, 20, 9, 20, 50);
            x.keep();
            x.stall(2, 2, 14, 1, 3, 2);
            return x;
        }
    },
    /** By day: as many STALLS as may be. */
    FULL_OF_STALLS {
        @Override
        NightStalls make() {
            NightStalls x = DAY.make();
            x.stall(0, 3, 0, 4, 5, 6);
            x.stall(5, 3, 30, 9, 20, 99);
            return x;
        }
    },
    /** OPEN: GUESTS of each kind (0 FED, 1 ANGRY, 2 COOKED for, 3 GONE, 4 and 5 WAIT, 6 WALKS). */
    NIGHT {
        @Override
        NightStalls make() {
            NightStalls x = DAY.make();
            x.open(3);
            x.guest(0, 9);
            x.guest(0, 1);
            x.guest(0, 8);
            x.guest(5, 7);
            x.go(4);
            x.guest(0, 6);
            x.guest(0, 5);
            x.go(1);
            x.guest(1, 4);
            x.plug(0, 3);
            x.plug(1, 31);
            x.plug(2, 7);
            return x;
        }
    },
    /** OPEN: as many GUESTS as may be. */
    FULL_OF_GUESTS {
        @Override
        NightStalls make() {
            NightStalls x = NIGHT.make();
            for (int guest = 7; guest < 20; guest++) {
                x.guest(guest % 6, guest);
            }
            return x;
        }
    },
    /** OPEN: a LINE that has TRIPPED, with nothing PLUGGED on it any more. */
    PULLED {
        @Override
        NightStalls make() {
            NightStalls x = NIGHT.make();
            x.pull(1);
            return x;
        }
    },
    /** Shut. */
    SHUT {
        @Override
        NightStalls make() {
            NightStalls x = NIGHT.make();
            x.shut();
            return x;
        }
    };

    static final Scene[] OPEN = {NIGHT, FULL_OF_GUESTS, PULLED};
    static final Scene[] NOT_OPEN = {NEW, DAY, FULL_OF_STALLS, SHUT};

    abstract NightStalls make();
}
