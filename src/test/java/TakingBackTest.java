/** Promises 16 to 21: groups, taking back, doing again. */
public final class TakingBackTest {
    public static void main(String[] args) {
        promise16OpenGroup();
        promise17CloseGroup();
        promise18Undo();
        promise18AllKinds();
        promise19Redo();
        promises20And21Counts();
        whatIsNoChange();
        atMostTwenty();
        Due.end("TakingBackTest");
    }

    private static void promise16OpenGroup() {
        OvertureDesk desk = new OvertureDesk();
        Due.is("16: first", 0, desk::openGroup);
        Due.state("16: open", desk::openGroup);
        desk.closeGroup();
        desk.write(0, 0, 1, 0, 1);
        Due.is("16: again", 1, desk::openGroup);
        desk.write(0, 0, 1, 0, 1);
        Due.is("16: no change in it", 1, desk::undos);
    }

    private static void promise17CloseGroup() {
        OvertureDesk desk = new OvertureDesk();
        Due.state("17: none", desk::closeGroup);
        desk.openGroup();
        Due.is("17: empty", false, desk::closeGroup);
        Due.state("17: closed", desk::closeGroup);
        desk.openGroup();
        desk.write(0, 0, 1, 0, 1);
        desk.setSpeed(0, 300);
        desk.setMeter(1, 3, 4);
        Due.is("17: a change", true, desk::closeGroup);
        Due.is("17: one change", 1, desk::undos);
        Due.is("17: all at once", 0, desk::undo);
        Due.is("17: all at once", 0, desk::notes);
        Due.is("17: all at once", 5000, () -> desk.timeOf(96));
        Due.is("17: all at once", 768, () -> desk.tickOfBar(2));
        Due.is("17: done again", 0, desk::redo);
        Due.is("17: done again", 20000, () -> desk.timeOf(96));
        desk.undo();
        desk.openGroup();
        desk.write(0, 0, 1, 0, 1);
        desk.remove(0);
        desk.setTrack(0, true, false, 0, 0);
        desk.setTrack(0, false, false, 0, 0);
        Due.is("17: nothing is other", false, desk::closeGroup);
        Due.is("17: can still be done again", 1, desk::redos);
        desk.openGroup();
        desk.copy(-1, 0, 9600);
        Due.is("17: the clipboard is not part", false, desk::closeGroup);
    }

    private static void promise18Undo() {
        OvertureDesk desk = new OvertureDesk();
        Due.state("18: none", desk::undo);
        desk.write(0, 0, 1, 0, 1);
        desk.write(1, 0, 1, 0, 1);
        desk.openGroup();
        Due.state("18: a group is open", desk::undo);
        desk.closeGroup();
        Due.is("18: latest", 1, desk::undo);
        Due.is("18: latest", 0, () -> desk.note(0, 0));
        Due.is("18: first", 0, desk::undo);
        Due.state("18: no more", desk::undo);
        Due.is("18: no notes", 0, desk::notes);
    }

    /** Each kind of change, one after another on one desk. */
    private static OvertureDesk withKinds(int count) {
        OvertureDesk desk = new OvertureDesk();
        for (int i = 0; i < 10; i++) {
            desk.write(i % 3, i * 110, 100 + i, 50 + i, 60 + i);
        }
        desk.copy(-1, 0, 200);
        Runnable[] changes = {
            () -> desk.write(5, 7, 8, 9, 10), () -> desk.remove(2), () -> desk.split(3, 150),
            () -> desk.transpose(-1, 0, 9600, 5), () -> desk.weigh(-1, 0, 9600, 150),
            () -> desk.quantise(-1, 0, 9600, 96, 20, 80), () -> desk.paste(3000),
            () -> desk.setTrack(1, false, false, 3, 0), () -> desk.setTrack(1, false, false, 3, 9),
            () -> desk.setTrack(2, true, false, 0, 0), () -> desk.setTrack(1, false, true, 3, 9),
            () -> desk.setSpeed(50, 700), () -> desk.setSpeed(50, 701), () -> desk.setSpeed(50, 0),
            () -> desk.setMeter(2, 5, 8), () -> desk.setMeter(2, 5, 16), () -> desk.setMeter(2, 0, 0),
            () -> desk.setLoop(0, 300, 3), () -> desk.setLoop(0, 310, 3), () -> desk.setLoop(0, 310, 0)};
        for (int i = 0; i < count; i++) {
            changes[i].run();
            int number = i;
            Due.is("18: change " + i + " is one", Math.min(20, 11 + number), desk::undos);
        }
        return desk;
    }

    /** Each kind of change is taken back, and done again, whole. */
    private static void promise18AllKinds() {
        for (int count = 0; count <= 20; count++) {
            int behind = count;
            long want = sumOf(withKinds(count));
            OvertureDesk back = withKinds(20);
            for (int i = 19; i >= count; i--) {
                int left = i;
                Due.is("18: to take back", left, back::undo);
            }
            Due.is("18: back to " + count + " changes", want, () -> sumOf(back));
            OvertureDesk again = withKinds(20);
            for (int i = 0; i < 20; i++) {
                again.undo();
            }
            for (int i = 0; i < behind; i++) {
                int left = 19 - i;
                Due.is("19: to do again", left, again::redo);
            }
            Due.is("19: again to " + count + " changes", want, () -> sumOf(again));
        }
    }

    /** All that a change can make other, without the counts of changes. */
    private static long sumOf(OvertureDesk desk) {
        long sum = 17;
        for (int place = 0; place < desk.notes(); place++) {
            for (int what = 0; what < 5; what++) {
                sum = sum * 31 + desk.note(place, what);
            }
        }
        for (int event = 0; event < desk.events(); event++) {
            for (int what = 0; what < 4; what++) {
                sum = sum * 31 + desk.event(event, what);
            }
        }
        for (int track = 0; track < 6; track++) {
            sum = sum * 31 + desk.eventsAlone(track);
        }
        return (sum * 31 + desk.timeOf(9599)) * 31 + desk.tickOfBar(99);
    }

    private static void promise19Redo() {
        OvertureDesk desk = new OvertureDesk();
        Due.state("19: none", desk::redo);
        desk.write(0, 0, 1, 0, 1);
        desk.write(1, 0, 1, 0, 1);
        desk.undo();
        desk.undo();
        desk.openGroup();
        Due.state("19: a group is open", desk::redo);
        desk.closeGroup();
        Due.is("19: what was taken back last", 1, desk::redo);
        Due.is("19: what was taken back last", 0, () -> desk.note(0, 0));
        desk.write(2, 0, 1, 0, 1);
        Due.state("19: till the next change", desk::redo);
        Due.is("19: till the next change", 2, desk::undos);
    }

    private static void promises20And21Counts() {
        OvertureDesk desk = new OvertureDesk();
        desk.write(0, 0, 1, 0, 1);
        desk.write(1, 0, 1, 0, 1);
        desk.undo();
        Due.is("20: one", 1, desk::undos);
        Due.is("21: one", 1, desk::redos);
        desk.setTrack(0, false, false, 0, 0);
        Due.is("21: no change keeps it", 1, desk::redos);
        desk.openGroup();
        desk.write(3, 0, 1, 0, 1);
        Due.is("20: in a group", 1, desk::undos);
        Due.is("21: in a group", 1, desk::redos);
        desk.closeGroup();
        Due.is("20: behind a group", 2, desk::undos);
        Due.is("21: behind a group", 0, desk::redos);
    }

    private static void whatIsNoChange() {
        OvertureDesk desk = new OvertureDesk();
        desk.write(0, 96, 1, 60, 60);
        desk.transpose(-1, 0, 9600, 0);
        desk.weigh(-1, 0, 9600, 100);
        desk.quantise(-1, 0, 9600, 96, 0, 100);
        desk.copy(-1, 0, 1);
        desk.paste(0);
        desk.setTrack(0, false, false, 0, 0);
        desk.setSpeed(0, 1200);
        desk.setMeter(0, 4, 4);
        desk.setLoop(7, 9, 0);
        Due.is("20: no change", 1, desk::undos);
        desk.setLoop(7, 9, 1);
        Due.is("20: a loop of one time is one", 2, desk::undos);
        desk.setLoop(7, 9, 1);
        Due.is("20: the same loop", 2, desk::undos);
        desk.setLoop(8, 9, 0);
        desk.setLoop(7, 9, 0);
        Due.is("20: no loop any more", 3, desk::undos);
        desk.setMeter(0, 8, 8);
        Due.is("20: as long but other", 4, desk::undos);
        desk.setSpeed(96, 1200);
        Due.is("20: as fast but other", 5, desk::undos);
        Due.state("20: thrown", () -> desk.setSpeed(97, 0));
        Due.is("20: thrown", 5, desk::undos);
    }

    private static void atMostTwenty() {
        OvertureDesk desk = new OvertureDesk();
        for (int i = 1; i <= 45; i++) {
            desk.write(0, i, 1, 60, 60);
            int count = Math.min(i, 20);
            Due.is("20: after " + i, count, desk::undos);
        }
        for (int i = 19; i >= 0; i--) {
            Due.is("18: of twenty", i, desk::undo);
        }
        Due.state("18: of twenty", desk::undo);
        Due.is("18: the oldest ones stay", 25, desk::notes);
        Due.is("21: twenty", 20, desk::redos);
        for (int i = 0; i < 5; i++) {
            desk.redo();
        }
        Due.is("19: five", 30, desk::notes);
        desk.remove(0);
        Due.is("20: six", 6, desk::undos);
        Due.is("21: none", 0, desk::redos);
        for (int i = 0; i < 6; i++) {
            desk.undo();
        }
        Due.is("18: back again", 25, desk::notes);
        Due.is("21: six", 6, desk::redos);
    }
}
