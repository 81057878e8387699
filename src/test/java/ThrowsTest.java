import java.util.HashMap;
import java.util.Map;
import java.util.function.Supplier;

/**
 * The "Throws" rows of all promises: both ends of each bound hold, the one beyond each is refused; of several
 * exceptions the one that is named first is thrown; and a method that throws an exception changes nothing.
 */
public final class ThrowsTest {
    private static final String A = "IllegalArgumentException";
    private static final String S = "IllegalStateException";
    private static final String I = "IndexOutOfBoundsException";

    /** The desks that each refused call is made on, and the story that each of them tells without it. */
    private static final Map<String, Supplier<OvertureDesk>> DESKS = new HashMap<>();
    private static final Map<String, String> STORIES = new HashMap<>();

    public static void main(String[] args) {
        desk("new", OvertureDesk::new);
        desk("used", Desks::used);
        desk("undone", Desks::undone);
        desk("grouped", Desks::grouped);
        desk("crowded", Desks::crowded);
        desk("full", Desks::full);
        notes();
        changesOfNotes();
        clipboard();
        tracks();
        speeds();
        meters();
        loop();
        groups();
        whenAndWhere();
        written();
        played();
        wouldBe();
        ranges();
        Due.end("ThrowsTest");
    }

    private static void desk(String name, Supplier<OvertureDesk> maker) {
        DESKS.put(name, maker);
        STORIES.put(name, Desks.story(maker.get()));
    }

    private static void refusedOn(String name, String due, String call, int... args) {
        OvertureDesk desk = DESKS.get(name).get();
        String what = name + " desk: " + Calls.text(call, args);
        Due.is(what, due, () -> Calls.call(desk, call, args));
        Due.is(what + " changes nothing", true, () -> Desks.story(desk).equals(STORIES.get(name)));
    }

    /** A call that is refused whatever the state is. */
    private static void refused(String due, String call, int... args) {
        for (String name : DESKS.keySet()) {
            refusedOn(name, due, call, args);
        }
    }

    private static void takenOn(String name, Object due, String call, int... args) {
        OvertureDesk desk = DESKS.get(name).get();
        Due.is(name + " desk: " + Calls.text(call, args), due, () -> Calls.call(desk, call, args));
    }

    private static int[] with(int[] base, int which, int value) {
        int[] args = base.clone();
        args[which] = value;
        return args;
    }

    /** An argument that may be least to most: what is beyond is refused on each desk, the ends are taken by the used one. */
    private static void bound(String due, int least, int most, int which, String call, int... base) {
        beyond(due, least, most, which, call, base);
        for (int value : new int[] {least, most}) {
            OvertureDesk desk = Desks.used();
            int[] args = with(base, which, value);
            String answer = Due.told(() -> Calls.call(desk, call, args));
            Due.is(Calls.text(call, args) + " answers", false, () -> answer.endsWith("Exception"));
        }
    }

    private static void beyond(String due, int least, int most, int which, String call, int... base) {
        refused(due, call, with(base, which, least - 1));
        refused(due, call, with(base, which, Integer.MIN_VALUE));
        if (most < Integer.MAX_VALUE) {
            refused(due, call, with(base, which, most + 1));
            refused(due, call, with(base, which, Integer.MAX_VALUE));
        }
    }

    /** A place (or an event) that there is not, whatever the other argument is. */
    private static void noSuch(String call, String name, int count, int... others) {
        for (int other : others) {
            for (int place : new int[] {-1, count, count + 1, Integer.MIN_VALUE, Integer.MAX_VALUE}) {
                refusedOn(name, I, call, place, other);
            }
        }
    }

    private static void notes() {
        bound(A, 0, 5, 0, "write", 0, 100, 10, 60, 60);
        bound(A, 0, 9599, 1, "write", 0, 100, 10, 60, 60);
        bound(A, 1, 960, 2, "write", 0, 100, 10, 60, 60);
        bound(A, 0, 127, 3, "write", 0, 100, 10, 60, 60);
        bound(A, 1, 127, 4, "write", 0, 100, 10, 60, 60);
        refusedOn("crowded", S, "write", 0, 0, 1, 0, 1);
        refusedOn("full", S, "write", 5, 9599, 960, 127, 127);
        refusedOn("full", A, "write", 5, 9599, 960, 127, 128);
        for (int place : new int[] {-1, 60, Integer.MIN_VALUE, Integer.MAX_VALUE}) {
            refused(I, "remove", place);
        }
        refusedOn("new", I, "remove", 0);
        refusedOn("used", I, "remove", 5);
        takenOn("used", 4, "remove", 4);
        takenOn("full", 59, "remove", 59);
        noSuch("note", "new", 0, -1, 0, 4, 5);
        noSuch("note", "used", 5, -1, 0, 4, 5);
        noSuch("note", "full", 60, -1, 0, 4, 5);
        for (String name : new String[] {"used", "undone", "grouped", "crowded", "full"}) {
            for (int what : new int[] {-1, 5, Integer.MIN_VALUE, Integer.MAX_VALUE}) {
                refusedOn(name, A, "note", 0, what);
            }
        }
    }

    private static void changesOfNotes() {
        noSuch("split", "new", 0, -1, 0, 9600);
        noSuch("split", "used", 5, -1, 95, 9600);
        noSuch("split", "full", 60, -1, 20, 9600);
        for (int tick : new int[] {Integer.MIN_VALUE, -1, 0, 89, 90, 190, 191, 9600, Integer.MAX_VALUE}) {
            refusedOn("used", A, "split", 0, tick);
        }
        takenOn("used", 6, "split", 0, 91);
        takenOn("used", 6, "split", 0, 189);
        for (int tick : new int[] {9599, 9600, 9648, 9649}) {
            refusedOn("used", A, "split", 3, tick);
        }
        refusedOn("full", S, "split", 0, 1);
        refusedOn("full", S, "split", 0, 49);
        refusedOn("full", A, "split", 0, 0);
        refusedOn("full", A, "split", 0, 50);
        bound(A, -127, 127, 3, "transpose", 4, 0, 9600, 0);
        refusedOn("used", S, "transpose", -1, 0, 9600, 8);
        refusedOn("used", S, "transpose", -1, 0, 9600, -11);
        takenOn("used", 5, "transpose", -1, 0, 9600, 7);
        takenOn("used", 5, "transpose", -1, 0, 9600, -10);
        refusedOn("used", A, "transpose", -1, 0, 9600, 128);
        refusedOn("used", A, "transpose", -1, 0, 9601, 8);
        bound(A, 0, 400, 3, "weigh", 4, 0, 9600, 100);
        bound(A, 1, 384, 3, "quantise", 4, 0, 9600, 96, 0, 100);
        bound(A, 0, 75, 4, "quantise", 4, 0, 9600, 96, 0, 100);
        bound(A, 0, 100, 5, "quantise", 4, 0, 9600, 96, 0, 100);
    }

    private static void clipboard() {
        bound(A, 0, 9599, 0, "paste", 0);
        refusedOn("crowded", S, "paste", 0);
        refusedOn("crowded", S, "paste", 9599);
        refusedOn("crowded", A, "paste", 9600);
        takenOn("full", 0, "paste", 0);
    }

    private static void tracks() {
        bound(I, 0, 5, 0, "setTrack", 0, 0, 0, 0, 0);
        bound(A, -24, 24, 3, "setTrack", 0, 0, 0, 0, 0);
        bound(A, -48, 48, 4, "setTrack", 5, 1, 1, 0, 0);
        refused(I, "setTrack", 6, 0, 0, 25, 0);
        refused(I, "setTrack", -1, 0, 0, 0, 49);
        refused(A, "setTrack", 3, 1, 1, -25, -49);
    }

    private static void speeds() {
        bound(A, 0, 9599, 0, "setSpeed", 5, 1200);
        bound(A, 200, 3000, 1, "setSpeed", 5, 1200);
        beyond(A, 0, 9599, 0, "setSpeed", 5, 0);
        refused(A, "setSpeed", 0, 1);
        refused(A, "setSpeed", 0, -1);
        refused(S, "setSpeed", 0, 0);
        refused(S, "setSpeed", 99, 0);
        refused(S, "setSpeed", 9599, 0);
        takenOn("used", 1, "setSpeed", 100, 0);
        refusedOn("crowded", S, "setSpeed", 1, 1200);
        refusedOn("crowded", S, "setSpeed", 1001, 200);
        refusedOn("crowded", S, "setSpeed", 9599, 3000);
        refusedOn("crowded", A, "setSpeed", 1, 199);
        refusedOn("crowded", A, "setSpeed", 9600, 1200);
        takenOn("crowded", 11, "setSpeed", 0, 3000);
        takenOn("crowded", 11, "setSpeed", 1000, 3000);
        takenOn("crowded", 10, "setSpeed", 1000, 0);
    }

    private static void meters() {
        bound(A, 0, 99, 0, "setMeter", 2, 4, 4);
        bound(A, 0, 16, 1, "setMeter", 2, 4, 4);
        beyond(A, 0, 99, 0, "setMeter", 2, 0, 4);
        for (int d : new int[] {Integer.MIN_VALUE, -4, -2, -1, 0, 1, 3, 5, 6, 7, 9, 12, 15, 17, 32, Integer.MAX_VALUE}) {
            refused(A, "setMeter", 2, 1, d);
            refused(A, "setMeter", 2, 16, d);
            takenOn("used", 1, "setMeter", 2, 0, d);
            refusedOn("used", S, "setMeter", 1, 0, d);
        }
        refused(S, "setMeter", 0, 0, 4);
        refused(S, "setMeter", 99, 0, 4);
        refused(A, "setMeter", 0, 17, 4);
        refused(A, "setMeter", 0, -1, 4);
        refusedOn("crowded", S, "setMeter", 11, 4, 4);
        refusedOn("crowded", S, "setMeter", 99, 1, 2);
        refusedOn("crowded", A, "setMeter", 11, 4, 3);
        refusedOn("crowded", A, "setMeter", 100, 4, 4);
        refusedOn("crowded", A, "setMeter", 11, 17, 4);
        takenOn("crowded", 11, "setMeter", 0, 16, 16);
        takenOn("crowded", 11, "setMeter", 10, 16, 16);
        takenOn("crowded", 10, "setMeter", 10, 0, 0);
    }

    private static void loop() {
        bound(A, 0, 9599, 0, "setLoop", 0, 9600, 1);
        bound(A, 1, 9600, 1, "setLoop", 0, 9600, 1);
        bound(A, 101, 9600, 1, "setLoop", 100, 200, 8);
        bound(A, 9600, 9600, 1, "setLoop", 9599, 9600, 8);
        bound(A, 0, 8, 2, "setLoop", 0, 9600, 1);
        beyond(A, 0, 9599, 0, "setLoop", 0, 9600, 0);
        beyond(A, 1, 9600, 1, "setLoop", 0, 9600, 0);
        refused(A, "setLoop", 100, 100, 0);
    }

    private static void groups() {
        for (String name : DESKS.keySet()) {
            boolean isOpen = name.equals("grouped");
            if (isOpen) {
                refusedOn(name, S, "openGroup");
            } else {
                refusedOn(name, S, "closeGroup");
            }
        }
        refusedOn("grouped", S, "undo");
        refusedOn("grouped", S, "redo");
        refusedOn("new", S, "undo");
        refusedOn("new", S, "redo");
        refusedOn("used", S, "redo");
    }

    private static void whenAndWhere() {
        bound(A, 0, 99999, 0, "timeOf", 0);
        bound(A, 0, Integer.MAX_VALUE, 0, "tickOf", 0);
        bound(A, 0, 99999, 0, "barOf", 0);
        bound(A, 0, 99999, 0, "beatOf", 0);
        bound(A, 0, 999, 0, "tickOfBar", 0);
    }

    private static void written() {
        bound(A, 0, 9599, 0, "chordAt", 0);
    }

    private static void played() {
        int events = Desks.used().events();
        noSuch("event", "new", 0, -1, 0, 3, 4);
        noSuch("event", "used", events, -1, 0, 3, 4);
        noSuch("event", "full", 120, -1, 0, 3, 4);
        takenOn("used", 2, "event", events - 1, 1);
        for (String name : new String[] {"used", "undone", "grouped", "crowded", "full"}) {
            for (int what : new int[] {-1, 4, Integer.MIN_VALUE, Integer.MAX_VALUE}) {
                refusedOn(name, A, "event", 0, what);
            }
        }
        bound(A, 0, 99999, 0, "sounding", 0);
    }

    private static void wouldBe() {
        bound(A, 1, 384, 3, "wouldMove", -1, 0, 9600, 96);
        bound(I, 0, 5, 0, "eventsAlone", 0);
    }

    /** All that take a range have its bounds; what stands behind the range is right here. */
    private static void ranges() {
        range("transpose", 0);
        range("weigh", 100);
        range("quantise", 96, 0, 100);
        range("copy");
        range("wouldMove", 96);
        range("bestStep");
    }

    private static int[] ranged(int track, int from, int to, int... behind) {
        int[] args = new int[3 + behind.length];
        args[0] = track;
        args[1] = from;
        args[2] = to;
        System.arraycopy(behind, 0, args, 3, behind.length);
        return args;
    }

    private static void range(String call, int... behind) {
        bound(A, -1, 5, 0, call, ranged(-1, 0, 9600, behind));
        bound(A, 0, 9599, 1, call, ranged(-1, 0, 9600, behind));
        bound(A, 1, 9600, 2, call, ranged(-1, 0, 9600, behind));
        bound(A, 101, 9600, 2, call, ranged(0, 100, 9600, behind));
        bound(A, 9600, 9600, 2, call, ranged(5, 9599, 9600, behind));
    }
}
