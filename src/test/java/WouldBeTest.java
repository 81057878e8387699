/** Promises 35 to 38: what would be. */
public final class WouldBeTest {
    public static void main(String[] args) {
        promise35WouldMove();
        promise36EventsAlone();
        promise37BestStep();
        promise38Digest();
        nothingIsChanged();
        Due.end("WouldBeTest");
    }

    private static void promise35WouldMove() {
        OvertureDesk desk = new OvertureDesk();
        Due.is("35: none", 0, () -> desk.wouldMove(-1, 0, 9600, 96));
        desk.write(0, 96, 10, 60, 60);
        desk.write(0, 97, 10, 60, 60);
        desk.write(1, 144, 10, 60, 60);
        Due.is("35: two", 2, () -> desk.wouldMove(-1, 0, 9600, 96));
        Due.is("35: one", 1, () -> desk.wouldMove(-1, 0, 9600, 48));
        Due.is("35: one track", 1, () -> desk.wouldMove(1, 0, 9600, 96));
        Due.is("35: step 1", 0, () -> desk.wouldMove(-1, 0, 9600, 1));
        Due.is("35: step 384", 3, () -> desk.wouldMove(-1, 0, 9600, 384));
        Due.is("35: without swing", 0, () -> desk.wouldMove(0, 96, 97, 32));
        Due.argument("35: step 0", () -> desk.wouldMove(0, 0, 1, 0));
        Due.argument("35: step 385", () -> desk.wouldMove(0, 0, 1, 385));
        Due.argument("35: step -1", () -> desk.wouldMove(0, 0, 1, -1));
    }

    private static void promise36EventsAlone() {
        OvertureDesk desk = new OvertureDesk();
        desk.write(0, 0, 10, 60, 60);
        desk.write(1, 100, 10, 120, 60);
        desk.write(1, 200, 10, 60, 60);
        Due.is("36: 0", 2, () -> desk.eventsAlone(0));
        Due.is("36: 1", 4, () -> desk.eventsAlone(1));
        Due.is("36: 5", 0, () -> desk.eventsAlone(5));
        desk.setTrack(0, true, false, 0, 0);
        Due.is("36: silent", 2, () -> desk.eventsAlone(0));
        desk.setTrack(1, false, true, 8, 0);
        Due.is("36: another alone", 2, () -> desk.eventsAlone(0));
        Due.is("36: shifted out", 2, () -> desk.eventsAlone(1));
        desk.setLoop(0, 96, 5);
        Due.is("36: looped", 10, () -> desk.eventsAlone(0));
        Due.is("36: nothing is changed", 2, desk::events);
        Due.index("36: -1", () -> desk.eventsAlone(-1));
        Due.index("36: 6", () -> desk.eventsAlone(6));
    }

    private static void promise37BestStep() {
        OvertureDesk desk = new OvertureDesk();
        Due.is("37: none", 96, () -> desk.bestStep(-1, 0, 9600));
        int[][] starts = {{96, 96}, {48, 48}, {32, 32}, {24, 24}, {16, 16}, {12, 12}, {8, 8}, {6, 6}, {5, 96}};
        for (int[] start : starts) {
            OvertureDesk one = new OvertureDesk();
            one.write(0, start[0], 1, 60, 60);
            Due.is("37: " + start[0], start[1], () -> one.bestStep(-1, 0, 9600));
        }
        desk.write(0, 96, 1, 60, 60);
        desk.write(0, 32, 1, 60, 60);
        desk.write(1, 18, 1, 60, 60);
        desk.write(1, 30, 1, 60, 60);
        Due.is("37: all", 6, () -> desk.bestStep(-1, 0, 9600));
        Due.is("37: one track", 32, () -> desk.bestStep(0, 0, 9600));
        Due.is("37: a range", 96, () -> desk.bestStep(-1, 33, 9600));
    }

    private static void promise38Digest() {
        OvertureDesk desk = new OvertureDesk();
        Due.is("38: empty", -7898079466600982096L, desk::digest);
        desk.write(0, 10, 700, 60, 60);
        desk.write(1, 20, 70, 61, 61);
        desk.write(1, 21, 70, 61, 62);
        desk.write(3, 9599, 70, 61, 61);
        desk.setTrack(1, false, true, 2, 3);
        desk.setSpeed(500, 700);
        desk.setMeter(3, 5, 8);
        desk.setLoop(0, 50, 4);
        Due.is("38: told", told(desk), desk::digest);
        desk.undo();
        desk.openGroup();
        desk.setTrack(0, true, false, 0, 0);
        Due.is("38: in a group", told(desk), desk::digest);
        Due.is("38: again", told(desk), desk::digest);
    }

    private static long sum;

    private static void add(int value) {
        sum = sum * 31 + value;
    }

    private static long told(OvertureDesk desk) {
        sum = 2671;
        add(desk.notes());
        for (int place = 0; place < desk.notes(); place++) {
            for (int what = 0; what <= 4; what++) {
                add(desk.note(place, what));
            }
        }
        add(desk.undos());
        add(desk.redos());
        add(desk.timeOf(9599));
        add(desk.tickOf(1000000));
        add(desk.barOf(9599));
        add(desk.beatOf(1000));
        add(desk.tickOfBar(7));
        add(desk.clashes());
        add(desk.events());
        for (int event = 0; event < desk.events(); event++) {
            for (int what = 0; what <= 3; what++) {
                add(desk.event(event, what));
            }
        }
        add(desk.most());
        add(desk.playedTo());
        for (int track = 0; track < 6; track++) {
            add(desk.eventsAlone(track));
        }
        add(desk.bestStep(-1, 0, 9600));
        return sum;
    }

    private static void nothingIsChanged() {
        OvertureDesk desk = new OvertureDesk();
        desk.write(0, 10, 700, 60, 60);
        desk.undo();
        desk.redo();
        desk.undo();
        long before = desk.digest();
        desk.wouldMove(-1, 0, 9600, 96);
        desk.eventsAlone(0);
        desk.bestStep(-1, 0, 9600);
        Due.is("35 to 38: nothing is changed", before, desk::digest);
        Due.is("35 to 38: nothing is changed", 1, desk::redos);
    }
}
