import java.util.function.Consumer;

/** The edges of what is kept: nothing, the latest, by day and by night, again and again. */
public final class EdgeKeepTest {
    private static final Due due = new Due();
    private static final int NONE = NightStalls.NONE;

    public static void main(String[] args) {
        nothingAtFirst();
        keepChangesNothingElse();
        allComesBack();
        backFromEachCall();
        latestIsKept();
        keptStays();
        backIsNotKept();
        backToANewObject();
        backToAnOpenNight();
        backToAShutNight();
        refusedCallsKeepNothing();
        objectsKeepForThemselves();
        againAndAgain();
        due.end();
    }

    private static void nothingAtFirst() {
        due.says("It becomes what was kept latest (which stays): 1. NONE: nothing is kept.");
        NightStalls x = new NightStalls();
        due.is("back", x.back(), NONE);
        x.street(3);
        due.is("back", x.back(), NONE);
        x.open(0);
        due.is("back by night", x.back(), NONE);
        due.is("PLACES", x.many(0), 3);
        due.is("OPEN", x.many(3), 1);
        x.shut();
        due.is("back", x.back(), NONE);
        due.is("keep", x.keep(), 1);
        due.is("back", x.back(), 1);
        due.is("PLACES", x.many(0), 3);
    }

    private static void keepChangesNothingElse() {
        due.says("All is kept: 1.");
        Tell[] parts = {Tell.NOW, Tell.LATER, Tell.DAY};
        for (Scene scene : Scene.values()) {
            for (Tell part : parts) {
                NightStalls x = scene.make();
                due.is("keep in " + scene, x.keep(), 1);
                due.same("keep in " + scene, part.of(x), part.of(scene.make()));
            }
        }
    }

    /** From any scene, whatever came in between, back() leads to all that was. */
    private static void allComesBack() {
        due.says("`int keep()`: All is kept");
        for (Scene scene : Scene.values()) {
            Tell[] parts = {Tell.NOW, Tell.LATER, Tell.DAY};
            for (Tell part : parts) {
                NightStalls x = scene.make();
                x.keep();
                turnUpsideDown(x);
                due.is("back to " + scene, x.back(), 1);
                due.same("back to " + scene, part.of(x), part.of(scene.make()));
            }
        }
    }

    private static void turnUpsideDown(NightStalls x) {
        x.shut();
        x.street(8);
        for (int place = 0; place < 8; place++) {
            x.place(place, 0, 90 + place);
            x.place(place, 1, 1 + place % 2);
            x.place(place, 2, place % 3 == 0 ? 1 : 0);
        }
        for (int line = 0; line < 3; line++) {
            x.limit(line, 70 + line);
            x.clash(line, line + 1, line == 1);
            x.clash(line, line, line != 2);
        }
        x.rule(0, 0);
        x.rule(1, 49);
        for (int stall = 0; stall < 5; stall++) {
            x.stall(5, 3, 30, 9, 20, 99);
            for (int what = 0; what < 6; what++) {
                x.change(stall, what, 3);
            }
        }
        x.open(1);
        for (int guest = 0; guest < 20; guest++) {
            x.guest(3, 2 + guest);
        }
        x.go(9);
        for (int line = 0; line < 3; line++) {
            x.plug(line, 99);
        }
        x.go(9);
    }

    /** Each call that changes something is taken back. */
    private static void backFromEachCall() {
        due.says("It becomes what was kept latest");
        takenBack(Scene.DAY, x -> x.street(4));
        takenBack(Scene.DAY, x -> x.place(0, 0, 77));
        takenBack(Scene.DAY, x -> x.place(0, 1, 2));
        takenBack(Scene.DAY, x -> x.place(0, 2, 1));
        takenBack(Scene.DAY, x -> x.limit(0, 9));
        takenBack(Scene.DAY, x -> x.clash(3, 3, true));
        takenBack(Scene.DAY, x -> x.clash(0, 1, false));
        takenBack(Scene.DAY, x -> x.rule(0, 0));
        takenBack(Scene.DAY, x -> x.rule(1, 50));
        takenBack(Scene.DAY, x -> x.stall(0, 0, 0, 1, 1, 99));
        for (int what = 0; what < 6; what++) {
            int of = what;
            takenBack(Scene.DAY, x -> x.change(0, of, 3));
        }
        takenBack(Scene.DAY, x -> x.open(3));
        takenBack(Scene.NIGHT, x -> x.shut());
        takenBack(Scene.NIGHT, x -> x.guest(0, 9));
        takenBack(Scene.NIGHT, x -> x.go(1));
        takenBack(Scene.NIGHT, x -> x.go(50));
        takenBack(Scene.NIGHT, x -> x.plug(0, 4));
        takenBack(Scene.NIGHT, x -> x.plug(0, 99));
        takenBack(Scene.NIGHT, x -> x.pull(1));
        takenBack(Scene.PULLED, x -> x.reset(1));
        takenBack(Scene.SHUT, x -> x.street(4));
        takenBack(Scene.SHUT, x -> x.open(3));
    }

    private static void takenBack(Scene scene, Consumer<NightStalls> call) {
        Tell[] parts = {Tell.NOW, Tell.LATER, Tell.DAY};
        for (Tell part : parts) {
            NightStalls x = scene.make();
            x.keep();
            call.accept(x);
            due.is("back", x.back(), 1);
            due.same("back from a call to " + scene, part.of(x), part.of(scene.make()));
        }
    }

    private static void latestIsKept() {
        due.says("what was kept latest");
        NightStalls x = new NightStalls();
        for (int n = 1; n <= 8; n++) {
            x.street(n);
            due.is("keep", x.keep(), 1);
        }
        x.street(2);
        due.is("back", x.back(), 1);
        due.is("PLACES", x.many(0), 8);
        x.street(5);
        x.keep();
        x.street(6);
        x.back();
        due.is("PLACES", x.many(0), 5);
    }

    private static void keptStays() {
        due.says("(which stays)");
        NightStalls x = new NightStalls();
        x.street(3);
        x.stall(0, 0, 0, 1, 9, 9);
        x.open(0);
        x.guest(0, 5);
        x.go(1);
        x.keep();
        for (int i = 0; i < 20; i++) {
            due.is("go(2)", x.go(2), 1);
            due.is("back", x.back(), 1);
            due.is("TICK", x.many(4), 1);
            due.is("TOOK", x.many(9), 0);
            due.is("it WAITS", x.guestOf(0, 0), 1);
        }
        due.is("back twice", x.back(), 1);
        due.is("TICK", x.many(4), 1);
    }

    private static void backIsNotKept() {
        due.says("It becomes what was kept latest (which stays): 1.");
        NightStalls x = new NightStalls();
        x.street(2);
        x.keep();
        x.street(7);
        x.back();
        x.place(1, 0, 50);
        due.is("back", x.back(), 1);
        due.is("what came behind back() is not kept", x.place(1, 0, 0), 0);
    }

    private static void backToANewObject() {
        due.says("nothing is kept.");
        NightStalls x = new NightStalls();
        x.keep();
        turnUpsideDown(x);
        x.back();
        due.same("a new object", Tell.NOW.of(x), Tell.NOW.of(new NightStalls()));
        due.is("STALLS come from 0 on", x.stall(0, 0, 0, 1, 1, 0), 0);
    }

    private static void backToAnOpenNight() {
        due.says("`int back()`: It becomes what was kept latest");
        NightStalls x = Scene.NIGHT.make();
        x.keep();
        x.shut();
        due.is("OPEN", x.many(3), 0);
        x.back();
        due.is("OPEN", x.many(3), 1);
        due.is("street", x.street(1), NightStalls.STATE);
        due.is("guest", x.guest(0, 1), 7);
        due.is("shut", x.shut(), 5);
    }

    private static void backToAShutNight() {
        due.says("`STATE = -3`: A NIGHT is OPEN, or is not.");
        NightStalls x = Scene.SHUT.make();
        x.keep();
        x.open(0);
        due.is("OPEN", x.many(3), 1);
        x.back();
        due.is("OPEN", x.many(3), 0);
        due.is("go", x.go(1), NightStalls.STATE);
        due.is("GUESTS", x.many(5), 7);
        due.is("shut", x.shut(), NightStalls.STATE);
    }

    private static void refusedCallsKeepNothing() {
        due.says("changes nothing.");
        NightStalls x = Scene.DAY.make();
        x.keep();
        due.is("a refused call", x.street(9), NightStalls.NUMBER);
        due.is("a refused call", x.go(1), NightStalls.STATE);
        x.street(1);
        due.is("a refused call", x.place(7, 0, 1), NightStalls.NUMBER);
        due.is("back", x.back(), 1);
        due.same("back", Tell.NOW.of(x), Tell.NOW.of(Scene.DAY.make()));
    }

    private static void objectsKeepForThemselves() {
        due.says("NONE: nothing is kept.");
        NightStalls x = new NightStalls();
        NightStalls y = new NightStalls();
        x.street(4);
        x.keep();
        due.is("back of another", y.back(), NONE);
        y.street(6);
        y.keep();
        x.street(1);
        y.street(1);
        x.back();
        y.back();
        due.is("PLACES", x.many(0), 4);
        due.is("PLACES", y.many(0), 6);
    }

    private static void againAndAgain() {
        due.says("at most 512 calls after it has been made");
        NightStalls x = new NightStalls();
        for (int i = 0; i < 170; i++) {
            int n = 1 + i % 8;
            due.is("street", x.street(n), n);
            due.is("keep", x.keep(), 1);
            due.is("back", x.back(), 1);
        }
        due.is("the 511th call", x.back(), 1);
        due.is("the 512th call", x.many(0), 1 + 169 % 8);
    }
}
