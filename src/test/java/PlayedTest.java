/** Promises 27 to 34: what is written, what is played. */
public final class PlayedTest {
    public static void main(String[] args) {
        promise27ChordAt();
        promise28Clashes();
        promise29Events();
        promise30Event();
        promise30Order();
        promise31Sounding();
        promise32Most();
        promise33PlayedTo();
        promise34MeanForce();
        theLoop();
        theGreatestPlay();
        Due.end("PlayedTest");
    }

    private static void promise27ChordAt() {
        OvertureDesk desk = new OvertureDesk();
        Due.is("27: none", 0, () -> desk.chordAt(0));
        desk.write(0, 10, 10, 60, 60);
        desk.write(1, 15, 10, 64, 60);
        desk.write(2, 15, 10, 72, 60);
        desk.write(3, 0, 960, 127, 60);
        Due.is("27: ahead", 1 << 7, () -> desk.chordAt(9));
        Due.is("27: beginning", 1 << 7 | 1, () -> desk.chordAt(10));
        Due.is("27: all", 1 << 7 | 1 << 4 | 1, () -> desk.chordAt(19));
        Due.is("27: octave stays", 1 << 7 | 1 << 4 | 1, () -> desk.chordAt(20));
        Due.is("27: end", 1 << 7, () -> desk.chordAt(25));
        desk.setTrack(3, true, false, 5, 7);
        Due.is("27: written, not played", 1 << 7, () -> desk.chordAt(0));
        desk.write(0, 9599, 1, 11, 60);
        Due.is("27: last tick", 1 << 11, () -> desk.chordAt(9599));
        Due.argument("27: -1", () -> desk.chordAt(-1));
        Due.argument("27: 9600", () -> desk.chordAt(9600));
    }

    private static void promise28Clashes() {
        OvertureDesk desk = new OvertureDesk();
        Due.is("28: none", 0, desk::clashes);
        desk.write(0, 10, 10, 60, 60);
        desk.write(0, 20, 10, 60, 60);
        desk.write(1, 10, 10, 60, 60);
        desk.write(0, 10, 10, 61, 60);
        Due.is("28: neighbours", 0, desk::clashes);
        desk.write(0, 19, 1, 60, 60);
        Due.is("28: one tick", 1, desk::clashes);
        desk.write(0, 0, 100, 60, 60);
        Due.is("28: over all", 4, desk::clashes);
        desk.write(1, 10, 10, 60, 60);
        Due.is("28: just alike", 5, desk::clashes);
        OvertureDesk full = new OvertureDesk();
        for (int i = 0; i < 60; i++) {
            full.write(2, i, 60, 60, 60);
        }
        Due.is("28: of 60", 1770, full::clashes);
    }

    private static void promise29Events() {
        OvertureDesk desk = new OvertureDesk();
        Due.is("29: none", 0, desk::events);
        desk.write(0, 0, 10, 110, 60);
        desk.write(1, 0, 10, 10, 60);
        Due.is("29: two each", 4, desk::events);
        desk.setTrack(0, false, false, 17, 0);
        Due.is("29: 127 is played", 4, desk::events);
        desk.setTrack(0, false, false, 18, 0);
        Due.is("29: 128 is not", 2, desk::events);
        desk.setTrack(1, false, false, -10, 0);
        Due.is("29: 0 is played", 2, desk::events);
        desk.setTrack(1, false, false, -11, 0);
        Due.is("29: -1 is not", 0, desk::events);
    }

    private static void event(String what, OvertureDesk desk, int event, int... facts) {
        for (int i = 0; i < facts.length; i++) {
            int fact = i;
            Due.is("30: " + what + ": event(" + event + ", " + fact + ")", facts[i], () -> desk.event(event, fact));
        }
    }

    private static void promise30Event() {
        OvertureDesk desk = new OvertureDesk();
        Due.index("30: none", () -> desk.event(0, 0));
        desk.write(4, 10, 20, 60, 99);
        event("on", desk, 0, 10, 4, 60, 99);
        event("off", desk, 1, 30, 4, 60, 0);
        desk.setTrack(4, false, false, 2, -11);
        event("0 if it would be less", desk, 0, 0, 4, 62, 99);
        event("its length stays", desk, 1, 20, 4, 62, 0);
        desk.setTrack(4, false, false, 2, -10);
        event("to 0", desk, 1, 20, 4, 62, 0);
        desk.setTrack(4, false, false, 2, 48);
        event("delayed", desk, 0, 58, 4, 62, 99);
        event("delayed", desk, 1, 78, 4, 62, 0);
        Due.index("30: -1", () -> desk.event(-1, 0));
        Due.index("30: 2", () -> desk.event(2, 0));
        Due.index("30: event and what", () -> desk.event(2, 4));
        Due.argument("30: what -1", () -> desk.event(0, -1));
        Due.argument("30: what 4", () -> desk.event(0, 4));
    }

    private static void promise30Order() {
        OvertureDesk desk = new OvertureDesk();
        desk.write(1, 10, 10, 60, 60);
        desk.write(0, 10, 10, 70, 50);
        desk.write(0, 10, 10, 65, 40);
        desk.write(0, 10, 20, 65, 30);
        desk.write(0, 10, 10, 65, 35);
        desk.write(5, 0, 10, 65, 99);
        desk.write(2, 20, 10, 1, 1);
        event("first", desk, 0, 0, 5, 65, 99);
        event("off first", desk, 1, 10, 5, 65, 0);
        event("by force", desk, 2, 10, 0, 65, 30);
        event("by force", desk, 3, 10, 0, 65, 35);
        event("by force", desk, 4, 10, 0, 65, 40);
        event("by pitch", desk, 5, 10, 0, 70, 50);
        event("by track", desk, 6, 10, 1, 60, 60);
        event("offs", desk, 7, 20, 0, 65, 0);
        event("offs", desk, 8, 20, 0, 65, 0);
        event("offs", desk, 9, 20, 0, 70, 0);
        event("offs", desk, 10, 20, 1, 60, 0);
        event("on behind offs", desk, 11, 20, 2, 1, 1);
        event("last", desk, 12, 30, 0, 65, 0);
        event("last", desk, 13, 30, 2, 1, 0);
        desk.setTrack(5, false, false, 0, 48);
        event("by its played tick", desk, 0, 10, 0, 65, 30);
    }

    private static void promise31Sounding() {
        OvertureDesk desk = new OvertureDesk();
        Due.is("31: none", 0, () -> desk.sounding(0));
        desk.write(0, 10, 10, 60, 60);
        desk.write(1, 15, 10, 60, 60);
        Due.is("31: ahead", 0, () -> desk.sounding(9));
        Due.is("31: beginning", 1, () -> desk.sounding(10));
        Due.is("31: both", 2, () -> desk.sounding(19));
        Due.is("31: end", 1, () -> desk.sounding(20));
        Due.is("31: behind", 0, () -> desk.sounding(25));
        desk.setTrack(1, false, false, 0, 5);
        Due.is("31: delayed", 0, () -> desk.sounding(30));
        Due.is("31: delayed", 1, () -> desk.sounding(29));
        desk.setTrack(1, true, false, 0, 5);
        Due.is("31: silent", 0, () -> desk.sounding(29));
        desk.setLoop(0, 12, 3);
        Due.is("31: third time", 1, () -> desk.sounding(35));
        Due.is("31: between", 0, () -> desk.sounding(33));
        Due.is("31: last", 0, () -> desk.sounding(99999));
        Due.argument("31: -1", () -> desk.sounding(-1));
        Due.argument("31: 100000", () -> desk.sounding(100000));
    }

    private static void promise32Most() {
        OvertureDesk desk = new OvertureDesk();
        Due.is("32: none", 0, desk::most);
        desk.write(0, 10, 10, 60, 60);
        desk.write(1, 20, 10, 60, 60);
        Due.is("32: neighbours", 1, desk::most);
        desk.setTrack(1, false, false, 0, -1);
        Due.is("32: together", 2, desk::most);
        desk.write(2, 0, 30, 60, 60);
        Due.is("32: three", 3, desk::most);
        desk.setTrack(0, true, false, 0, 0);
        Due.is("32: silent", 2, desk::most);
        desk.write(2, 40, 10, 60, 60);
        desk.write(3, 45, 10, 60, 60);
        desk.write(4, 49, 10, 60, 60);
        Due.is("32: behind others", 3, desk::most);
    }

    private static void promise33PlayedTo() {
        OvertureDesk desk = new OvertureDesk();
        Due.is("33: none", 0, desk::playedTo);
        desk.write(0, 10, 100, 60, 60);
        desk.write(0, 20, 10, 60, 60);
        Due.is("33: the latest end", 110, desk::playedTo);
        desk.setTrack(0, true, false, 0, 0);
        Due.is("33: none is heard", 0, desk::playedTo);
        desk.setTrack(0, false, false, 0, 48);
        desk.write(0, 9599, 960, 60, 60);
        Due.is("33: the latest there can be", 10607, desk::playedTo);
    }

    private static void promise34MeanForce() {
        OvertureDesk desk = new OvertureDesk();
        Due.is("34: none", 0.0, desk::meanForce);
        desk.write(0, 10, 10, 60, 100);
        Due.is("34: one", 100.0, desk::meanForce);
        desk.write(0, 500, 10, 60, 51);
        Due.is("34: not cut", 75.5, desk::meanForce);
        desk.setLoop(0, 96, 2);
        Due.is("34: as often as it is", 251 / 3.0, desk::meanForce);
        desk.setTrack(0, true, false, 0, 0);
        Due.is("34: none is heard", 0.0, desk::meanForce);
    }

    private static void theLoop() {
        OvertureDesk desk = new OvertureDesk();
        desk.write(0, 90, 100, 60, 10);
        desk.write(0, 100, 50, 60, 20);
        desk.write(0, 199, 50, 60, 30);
        desk.write(0, 200, 50, 60, 40);
        desk.setLoop(100, 200, 3);
        int[][] ons = {{90, 10}, {100, 20}, {199, 30}, {200, 20}, {299, 30}, {300, 20}, {399, 30}, {400, 40}};
        int[] offs = {150, 190, 200, 250, 300, 350, 400, 450};
        int[][] both = new int[16][];
        int count = 0;
        for (int[] on : ons) {
            both[count++] = new int[] {on[0], 1, on[1]};
        }
        for (int off : offs) {
            both[count++] = new int[] {off, 0, 0};
        }
        java.util.Arrays.sort(both, (a, b) -> a[0] != b[0] ? a[0] - b[0] : a[1] - b[1]);
        Due.is("29: looped", 16, desk::events);
        for (int i = 0; i < both.length; i++) {
            int event = i;
            Due.is("30: looped tick " + i, both[i][0], () -> desk.event(event, 0));
            Due.is("30: looped force " + i, both[i][2], () -> desk.event(event, 3));
        }
        desk.setLoop(100, 200, 1);
        Due.is("30: once, cut at its end", 200, () -> desk.event(5, 0));
        Due.is("29: once", 8, desk::events);
        Due.is("33: once", 250, desk::playedTo);
        desk.setTrack(0, false, false, 0, -48);
        Due.is("30: the delay is behind the cut", 42, () -> desk.event(0, 0));
        Due.is("33: the delay is behind the cut", 202, desk::playedTo);
    }

    private static OvertureDesk greatest() {
        OvertureDesk desk = new OvertureDesk();
        for (int i = 0; i < 60; i++) {
            desk.write(i % 6, 9599 - i, 960, 127 - i, 1 + i);
        }
        desk.setLoop(0, 9600, 8);
        return desk;
    }

    /** The room for what is played holds the most there can be. */
    private static void theGreatestPlay() {
        OvertureDesk desk = greatest();
        Due.is("29: greatest", 960, desk::events);
        Due.is("33: greatest", 76800, desk::playedTo);
        Due.is("32: greatest", 60, desk::most);
        Due.is("34: greatest", 30.5, desk::meanForce);
        Due.is("30: greatest", 76800, () -> desk.event(959, 0));
        Due.index("30: greatest", () -> desk.event(960, 0));
        for (int from = 0; from < 960; from += 240) {
            greatestEvents(from);
        }
    }

    /** Two times of the loop: 60 notes begin one tick after another, and all of them end where the loop does. */
    private static void greatestEvents(int from) {
        OvertureDesk desk = greatest();
        for (int i = from; i < from + 240; i++) {
            int event = i;
            int tick = i % 120 < 60 ? 9540 + i % 120 : 9600;
            Due.is("30: in order " + i, tick + 9600 * (i / 120), () -> desk.event(event, 0));
        }
    }
}
