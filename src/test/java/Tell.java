/**
 * All that an object tells, as one text, so that two objects can be held against one another.
 * An object has some 500 calls: each of these takes fewer than 300, and is asked of a new one.
 */
enum Tell {
    /** What is told without a change. */
    NOW {
        @Override
        void of(NightStalls x, StringBuilder text) {
            all(x, text);
        }
    },
    /** What comes of it in a few TICKS: who is next in a line is seen in no other way. */
    LATER {
        @Override
        void of(NightStalls x, StringBuilder text) {
            text.append("go ").append(x.go(1)).append(' ').append(x.go(3)).append(' ');
            all(x, text);
        }
    },
    /** What is set by day, which is told only by a call that sets it anew. */
    DAY {
        @Override
        void of(NightStalls x, StringBuilder text) {
            text.append("shut ").append(x.shut()).append(" places");
            for (int place = 0; place < 8; place++) {
                for (int what = 0; what < 3; what++) {
                    text.append(' ').append(x.place(place, what, 0));
                }
            }
            text.append(" rules ").append(x.rule(0, 0)).append(' ').append(x.rule(1, 0));
            text.append(" clashes");
            for (int smell = 0; smell < 4; smell++) {
                for (int other = smell; other < 4; other++) {
                    text.append(' ').append(x.clash(smell, other, true));
                }
            }
            text.append(" limits");
            for (int line = 0; line < 3; line++) {
                text.append(' ').append(x.limit(line, 0));
            }
        }
    },
    /** What is kept. */
    KEPT {
        @Override
        void of(NightStalls x, StringBuilder text) {
            text.append("back ").append(x.back()).append(' ');
            all(x, text);
        }
    };

    abstract void of(NightStalls x, StringBuilder text);

    String of(NightStalls x) {
        StringBuilder text = new StringBuilder();
        of(x, text);
        return text.toString();
    }

    private static void all(NightStalls x, StringBuilder text) {
        text.append("many");
        for (int what = 0; what <= 11; what++) {
            text.append(' ').append(x.many(what));
        }
        for (int stall = 0; stall < x.many(1); stall++) {
            text.append(" stall ").append(stall).append(':');
            for (int what = 0; what <= 11; what++) {
                text.append(' ').append(x.of(stall, what));
            }
        }
        for (int guest = 0; guest < x.many(5); guest++) {
            text.append(" guest ").append(guest).append(':');
            for (int what = 0; what <= 4; what++) {
                text.append(' ').append(x.guestOf(guest, what));
            }
        }
        for (int line = 0; line < 3; line++) {
            text.append(" line ").append(line).append(':');
            for (int what = 0; what <= 3; what++) {
                text.append(' ').append(x.lineOf(line, what));
            }
        }
        text.append(" suspects");
        for (int dish = 0; dish < 3; dish++) {
            for (int tick = 0; tick < 6; tick++) {
                text.append(' ').append(x.suspects(dish, tick, tick));
            }
        }
        for (int night = 2; night <= 3; night++) {
            text.append(" night ").append(night).append(": ").append(x.worth(night));
            for (int stall = 0; stall < x.many(1); stall++) {
                text.append(' ').append(x.layout(night, stall));
            }
        }
    }
}
