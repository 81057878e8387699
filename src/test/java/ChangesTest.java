/** Section 3: what is a change and what is none, groups, at most 20, what is gone, the clipboard. */
public final class ChangesTest {
    /** A call that makes something other on the desk of start(). */
    private static final String[] KINDS = {"write", "remove", "split", "transpose", "weigh", "quantise", "paste",
        "setTrack", "setTrack", "setTrack", "setTrack", "setSpeed", "setSpeed", "setSpeed", "setMeter", "setMeter",
        "setMeter", "setMeter", "setLoop", "setLoop", "setLoop", "setLoop"};
    private static final int[][] KINDS_ARGS = {{0, 0, 1, 60, 60}, {1}, {0, 20}, {-1, 0, 9600, 1}, {-1, 0, 9600, 50},
        {-1, 0, 9600, 96, 0, 100}, {0}, {0, 1, 0, 3, 5}, {0, 0, 1, 3, 5}, {0, 0, 0, 4, 5}, {0, 0, 0, 3, 4},
        {50, 0}, {50, 701}, {51, 900}, {2, 0, 0}, {2, 6, 8}, {2, 5, 4}, {3, 5, 4}, {10, 80, 0}, {11, 80, 3},
        {10, 81, 3}, {10, 80, 2}};

    /** A call that makes nothing other on the desk of start(), and what it answers. */
    private static final String[] NONE = {"transpose", "transpose", "weigh", "weigh", "quantise", "quantise",
        "quantise", "copy", "copy", "paste", "setTrack", "setTrack", "setSpeed", "setSpeed", "setMeter", "setMeter",
        "setLoop", "wouldMove", "eventsAlone", "bestStep"};
    private static final int[][] NONE_ARGS = {{-1, 0, 9600, 0, 3}, {4, 0, 9600, 5, 0}, {-1, 0, 9600, 100, 3},
        {4, 0, 9600, 0, 0}, {-1, 0, 9600, 96, 0, 0, 0}, {-1, 0, 9600, 1, 0, 100, 0}, {4, 0, 9600, 96, 0, 100, 0},
        {-1, 0, 9600, 3}, {4, 0, 9600, 0}, {9500, 0}, {0, 0, 0, 3, 5, 3}, {4, 0, 0, 0, 0, 0}, {0, 1200, 2},
        {50, 700, 2}, {0, 4, 4, 2}, {2, 5, 8, 2}, {10, 80, 3, 3}, {-1, 0, 9600, 96, 3}, {0, 12}, {-1, 0, 9600, 12}};

    public static void main(String[] args) {
        eachKindIsAChange();
        eachKindInAGroupIsAChange();
        marksThatAreHeardAlikeAreChanges();
        nothingOtherIsNoChange();
        clampedForcesAreNoChange();
        withoutALoopItsEndsAreNothing();
        aCallIsOneChange();
        refusedCallsAreNoChange();
        inAGroupNoChangeIsMade();
        aGroupIsOneChange();
        aGroupInWhichNothingIsOther();
        anEmptyGroup();
        aGroupThatIsOtherInBetween();
        takingBackInAGroup();
        atMost20();
        atMost20Groups();
        twentyAndNoneMore();
        latestFirst();
        doneAgainTillTheNextChange();
        takingBackIsNoChange();
        clipboardIsNoPart();
        Due.end("ChangesTest");
    }

    /** Notes on track 0 at 10 and 60 and on track 3 at 48, with a shift, a delay, a speed, a meter and a loop. */
    private static OvertureDesk start() {
        OvertureDesk desk = new OvertureDesk();
        desk.openGroup();
        desk.write(0, 10, 30, 60, 60);
        desk.write(0, 60, 30, 60, 70);
        desk.write(3, 48, 30, 60, 80);
        desk.setTrack(0, false, false, 3, 5);
        desk.setSpeed(50, 700);
        desk.setMeter(2, 5, 8);
        desk.setLoop(10, 80, 3);
        desk.copy(-1, 0, 61);
        desk.closeGroup();
        return desk;
    }

    /** A desk of start() with two changes, one of them taken back. */
    private static OvertureDesk halfway() {
        OvertureDesk desk = start();
        desk.setSpeed(9599, 1300);
        desk.setSpeed(9599, 1400);
        desk.undo();
        return desk;
    }

    private static void counts(String what, OvertureDesk desk, int undos, int redos) {
        Due.is(what + ": undos", undos, desk::undos);
        Due.is(what + ": redos", redos, desk::redos);
    }

    /** "A CHANGE is what one call makes of NOTES, TRACKS, SPEEDS, METERS or the LOOP, if anything is other behind it." */
    private static void eachKindIsAChange() {
        for (int i = 0; i < KINDS.length; i++) {
            OvertureDesk desk = start();
            String what = Calls.text(KINDS[i], KINDS_ARGS[i]);
            String before = sounds(desk);
            Calls.call(desk, KINDS[i], KINDS_ARGS[i]);
            String behind = sounds(desk);
            Due.is(what + " is told", false, () -> before.equals(behind));
            counts(what, desk, 2, 0);
            Due.is(what + ": undo", 1, desk::undo);
            Due.is(what + " taken back", before, () -> sounds(desk));
            counts(what + " taken back", desk, 1, 1);
            Due.is(what + ": redo", 0, desk::redo);
            Due.is(what + " done again", behind, () -> sounds(desk));
            counts(what + " done again", desk, 2, 0);
        }
    }

    /** All that a change can make other, but for the counts of changes. */
    private static String sounds(OvertureDesk desk) {
        StringBuilder text = new StringBuilder();
        for (int place = 0; place < desk.notes(); place++) {
            for (int what = 0; what < 5; what++) {
                text.append(desk.note(place, what)).append(' ');
            }
        }
        for (int event = 0; event < desk.events(); event++) {
            text.append(desk.event(event, 0)).append(' ').append(desk.event(event, 2)).append(' ');
        }
        text.append(desk.meanForce()).append(' ').append(desk.timeOf(51)).append(' ').append(desk.timeOf(9599));
        return text.append(' ').append(desk.tickOfBar(3)).append(' ').append(desk.beatOf(800)).append(' ')
                .append(desk.tickOfBar(99)).toString();
    }

    private static void eachKindInAGroupIsAChange() {
        for (int i = 0; i < KINDS.length; i++) {
            OvertureDesk desk = start();
            String what = Calls.text(KINDS[i], KINDS_ARGS[i]) + " in a group";
            desk.openGroup();
            Calls.call(desk, KINDS[i], KINDS_ARGS[i]);
            counts(what, desk, 1, 0);
            Due.is(what, true, desk::closeGroup);
            counts(what + ", closed", desk, 2, 0);
        }
    }

    /** Another SPEED or METER is one too if it goes on as the one ahead of it does, or a BAR is as long. */
    private static void marksThatAreHeardAlikeAreChanges() {
        OvertureDesk desk = start();
        Due.is("as fast as the one ahead", 3, () -> desk.setSpeed(51, 700));
        Due.is("as fast as the one ahead", 2, desk::undos);
        Due.is("as the meter ahead", 3, () -> desk.setMeter(3, 5, 8));
        Due.is("as the meter ahead", 3, desk::undos);
        Due.is("as long as it was", 3, () -> desk.setMeter(0, 2, 2));
        Due.is("as long as it was", 4, desk::undos);
        Due.is("a track without notes", 0, () -> desk.setTrack(5, true, true, 0, 0));
        Due.is("a track without notes", 5, desk::undos);
        Due.is("no more alone", 0, () -> desk.setTrack(5, true, false, 0, 0));
        Due.is("no more alone", 6, desk::undos);
        Due.is("a loop behind all notes", 3, () -> desk.setLoop(9599, 9600, 1));
        Due.is("another one", 1, () -> desk.setLoop(9598, 9600, 1));
        Due.is("two changes", 8, desk::undos);
    }

    private static void nothingOtherIsNoChange() {
        for (int i = 0; i < NONE.length; i++) {
            OvertureDesk desk = halfway();
            String call = NONE[i];
            int last = NONE_ARGS[i].length - 1;
            int[] args = java.util.Arrays.copyOf(NONE_ARGS[i], last);
            String what = Calls.text(call, args);
            if (call.equals("paste")) {
                desk.copy(4, 0, 9600);
            }
            if (call.equals("setSpeed")) {
                desk.undo();
            }
            int undos = desk.undos();
            int redos = desk.redos();
            Due.is(what, NONE_ARGS[i][last], () -> Calls.call(desk, call, args));
            counts(what + " is no change", desk, undos, redos);
            desk.openGroup();
            Calls.call(desk, call, args);
            Due.is(what + " in a group", false, desk::closeGroup);
            counts(what + " in a group is no change", desk, undos, redos);
        }
    }

    /** What is weighed from 1 to below 1, or from 127 to above 127, is what it was. */
    private static void clampedForcesAreNoChange() {
        OvertureDesk desk = new OvertureDesk();
        desk.write(0, 0, 10, 60, 1);
        Due.is("1 by 0", 1, () -> desk.weigh(0, 0, 1, 0));
        Due.is("1 by 199", 1, () -> desk.weigh(0, 0, 1, 199));
        Due.is("no change", 1, desk::undos);
        Due.is("1 by 200", 1, () -> desk.weigh(0, 0, 1, 200));
        Due.is("a change", 2, desk::undos);
        desk.write(1, 0, 10, 60, 127);
        Due.is("127 by 400", 1, () -> desk.weigh(1, 0, 1, 400));
        Due.is("127 by 101", 1, () -> desk.weigh(1, 0, 1, 101));
        Due.is("no change", 3, desk::undos);
        Due.is("127 by 99", 1, () -> desk.weigh(1, 0, 1, 99));
        Due.is("a change", 4, desk::undos);
    }

    /** "none at first": without a loop to tell that there is none is no change, whatever its ends. */
    private static void withoutALoopItsEndsAreNothing() {
        OvertureDesk desk = new OvertureDesk();
        Due.is("none", 0, () -> desk.setLoop(0, 9600, 0));
        Due.is("no change", 0, desk::undos);
        desk.setLoop(5, 9, 1);
        Due.is("a loop of one time is a change", 1, desk::undos);
        desk.setLoop(50, 90, 0);
        Due.is("its end is a change", 2, desk::undos);
        desk.setLoop(5, 9, 0);
        Due.is("no change", 2, desk::undos);
        desk.openGroup();
        desk.setLoop(5, 9, 8);
        desk.setLoop(7, 8, 0);
        Due.is("there is none again", false, desk::closeGroup);
    }

    private static void aCallIsOneChange() {
        OvertureDesk desk = Desks.full();
        Due.is("60 transposed", 60, () -> desk.transpose(-1, 0, 9600, 1));
        counts("one change", desk, 2, 0);
        Due.is("60 weighed", 60, () -> desk.weigh(-1, 0, 9600, 10));
        counts("one change", desk, 3, 0);
        Due.is("59 quantised", 59, () -> desk.quantise(-1, 0, 9600, 384, 75, 100));
        counts("one change", desk, 4, 0);
        desk.undo();
        desk.undo();
        desk.undo();
        counts("taken back", desk, 1, 3);
        Due.is("all forces", 100.0, desk::meanForce);
        for (int place = 0; place < 60; place++) {
            int at = place;
            Due.is("all pitches", 60, () -> desk.note(at, 3));
            Due.is("all beginnings", at % 10 * 600 + at / 10 * 100, () -> desk.note(at, 1));
        }
        OvertureDesk pasted = new OvertureDesk();
        pasted.write(0, 0, 1, 60, 60);
        pasted.write(1, 0, 1, 60, 60);
        pasted.copy(-1, 0, 1);
        pasted.paste(5);
        counts("two pasted", pasted, 3, 0);
        pasted.write(2, 0, 2, 60, 60);
        pasted.split(4, 1);
        counts("one split in two", pasted, 5, 0);
        Due.is("taken back as one", 4, pasted::undo);
        Due.is("five notes", 5, pasted::notes);
    }

    private static void refusedCallsAreNoChange() {
        OvertureDesk desk = halfway();
        Due.argument("write", () -> desk.write(6, 0, 1, 60, 60));
        Due.index("remove", () -> desk.remove(3));
        Due.argument("split", () -> desk.split(0, 10));
        Due.state("transpose", () -> desk.transpose(-1, 0, 9600, 68));
        Due.state("setSpeed", () -> desk.setSpeed(51, 0));
        Due.state("setMeter", () -> desk.setMeter(3, 0, 0));
        Due.argument("setLoop", () -> desk.setLoop(5, 5, 0));
        counts("refused", desk, 2, 1);
        desk.openGroup();
        Due.state("transpose in a group", () -> desk.transpose(-1, 0, 9600, 68));
        Due.state("a group in a group", desk::openGroup);
        Due.is("a group of them", false, desk::closeGroup);
        counts("refused in a group", desk, 2, 1);
    }

    /** "While a GROUP is open, no CHANGE is made" */
    private static void inAGroupNoChangeIsMade() {
        OvertureDesk desk = halfway();
        Due.is("opened", 2, desk::openGroup);
        for (int i = 0; i < 30; i++) {
            desk.write(4, i, 1, 60, 60);
            counts("write " + i, desk, 2, 1);
        }
        Due.is("closed", true, desk::closeGroup);
        counts("closed", desk, 3, 0);
        Due.is("taken back", 2, desk::undo);
        Due.is("all of it", 3, desk::notes);
        Due.is("done again", 0, desk::redo);
        Due.is("all of it", 33, desk::notes);
    }

    /** "as it is closed, all that was made in it is one CHANGE" */
    private static void aGroupIsOneChange() {
        OvertureDesk desk = start();
        String before = sounds(desk);
        desk.openGroup();
        desk.write(4, 0, 1, 60, 60);
        desk.split(0, 20);
        desk.remove(2);
        desk.transpose(-1, 0, 9600, 1);
        desk.weigh(-1, 0, 9600, 50);
        desk.quantise(-1, 0, 9600, 96, 0, 100);
        desk.paste(400);
        desk.setTrack(0, false, false, 4, 6);
        desk.setTrack(3, true, false, 4, 6);
        desk.setSpeed(50, 0);
        desk.setSpeed(60, 300);
        desk.setMeter(2, 0, 0);
        desk.setMeter(1, 9, 16);
        desk.setLoop(0, 300, 2);
        String behind = sounds(desk);
        Due.is("closed", true, desk::closeGroup);
        counts("closed", desk, 2, 0);
        Due.is("undo", 1, desk::undo);
        Due.is("all of it taken back", before, () -> sounds(desk));
        Due.is("redo", 0, desk::redo);
        Due.is("all of it done again", behind, () -> sounds(desk));
    }

    /** "if anything is other then than as it was opened": each kind there and back again. */
    private static void aGroupInWhichNothingIsOther() {
        String[] calls = {"write", "remove", "transpose", "transpose", "quantise", "weigh", "weigh", "setTrack",
            "setTrack", "setSpeed", "setSpeed", "setSpeed", "setSpeed", "setMeter", "setMeter", "setMeter", "setMeter",
            "setLoop", "setLoop"};
        int[][] there = {{4, 0, 1, 60, 60}, {2}, {-1, 0, 9600, 60}, {0, 0, 9600, -60}, {3, 0, 9600, 96, 0, 100},
            {3, 0, 9600, 200}, {3, 0, 9600, 50}, {0, 1, 1, 3, 5}, {5, 0, 0, 1, 1}, {50, 0}, {50, 800}, {70, 800},
            {0, 200}, {2, 0, 0}, {2, 6, 8}, {99, 1, 16}, {0, 16, 2}, {10, 80, 0}, {10, 90, 8}};
        String[] backCalls = {"remove", "write", "transpose", "transpose", "", "", "", "setTrack", "setTrack",
            "setSpeed", "setSpeed", "setSpeed", "setSpeed", "setMeter", "setMeter", "setMeter", "setMeter", "setLoop",
            "setLoop"};
        int[][] back = {{3}, {3, 48, 30, 60, 80}, {-1, 0, 9600, -60}, {0, 0, 9600, 60}, {}, {}, {}, {0, 0, 0, 3, 5},
            {5, 0, 0, 0, 0}, {50, 700}, {50, 700}, {70, 0}, {0, 1200}, {2, 5, 8}, {2, 5, 8}, {99, 0, 0}, {0, 4, 4},
            {10, 80, 3}, {10, 80, 3}};
        for (int i = 0; i < calls.length; i++) {
            OvertureDesk desk = halfway();
            String what = Calls.text(calls[i], there[i]) + " and back";
            desk.openGroup();
            Calls.call(desk, calls[i], there[i]);
            boolean isBack = !backCalls[i].isEmpty();
            if (isBack) {
                Calls.call(desk, backCalls[i], back[i]);
            }
            Due.is(what, !isBack, desk::closeGroup);
            counts(what, desk, isBack ? 2 : 3, isBack ? 1 : 0);
        }
    }

    private static void anEmptyGroup() {
        OvertureDesk desk = halfway();
        Due.state("none is open", desk::closeGroup);
        Due.is("opened", 2, desk::openGroup);
        Due.is("empty", false, desk::closeGroup);
        Due.state("closed", desk::closeGroup);
        counts("empty", desk, 2, 1);
        Due.is("still to do again", 0, desk::redo);
        Due.is("opened again", 3, desk::openGroup);
        Due.is("empty", false, desk::closeGroup);
        OvertureDesk fresh = new OvertureDesk();
        Due.is("opened at first", 0, fresh::openGroup);
        Due.is("empty", false, fresh::closeGroup);
        counts("empty", fresh, 0, 0);
    }

    /** Behind a group that is no change the change ahead of it is taken back whole. */
    private static void aGroupThatIsOtherInBetween() {
        OvertureDesk desk = new OvertureDesk();
        desk.write(0, 0, 10, 60, 60);
        desk.transpose(0, 0, 1, 5);
        desk.openGroup();
        desk.write(1, 0, 10, 60, 60);
        desk.transpose(-1, 0, 1, 5);
        desk.remove(1);
        desk.transpose(0, 0, 1, -5);
        Due.is("nothing is other", false, desk::closeGroup);
        Due.is("undo", 1, desk::undo);
        Due.is("one note", 1, desk::notes);
        Due.is("its first pitch", 60, () -> desk.note(0, 3));
        Due.is("redo", 0, desk::redo);
        Due.is("its other pitch", 65, () -> desk.note(0, 3));
    }

    private static void takingBackInAGroup() {
        OvertureDesk desk = halfway();
        desk.openGroup();
        Due.state("undo", desk::undo);
        Due.state("redo", desk::redo);
        desk.write(4, 0, 1, 60, 60);
        Due.state("undo of what is in the group", desk::undo);
        Due.state("redo behind it", desk::redo);
        Due.is("nothing is taken back", 4, desk::notes);
        desk.closeGroup();
        Due.is("undo", 2, desk::undo);
        desk.openGroup();
        Due.state("redo", desk::redo);
        desk.closeGroup();
        Due.is("redo", 0, desk::redo);
        OvertureDesk fresh = new OvertureDesk();
        fresh.openGroup();
        Due.state("undo of none", fresh::undo);
        Due.state("redo of none", fresh::redo);
    }

    /** "At most 20 CHANGES can be taken back, the latest first; with one more the oldest one can not any more." */
    private static void atMost20() {
        for (int changes : new int[] {1, 19, 20, 21, 22, 40, 41, 42, 43, 63}) {
            OvertureDesk desk = new OvertureDesk();
            for (int i = 1; i <= changes; i++) {
                desk.setSpeed(0, 1200 + i);
                Due.is("change " + i, Math.min(20, i), desk::undos);
            }
            int taken = Math.min(20, changes);
            for (int left = taken - 1; left >= 0; left--) {
                Due.is(changes + " changes: undo", left, desk::undo);
                int speed = 1200 + changes - (taken - left);
                Due.is(changes + " changes: undo", 600000000 / speed, () -> desk.timeOf(9600));
            }
            Due.state(changes + " changes: no more", desk::undo);
            counts(changes + " changes: no more", desk, 0, taken);
            for (int left = taken - 1; left >= 0; left--) {
                Due.is(changes + " changes: redo", left, desk::redo);
                int speed = 1200 + changes - left;
                Due.is(changes + " changes: redo", 600000000 / speed, () -> desk.timeOf(9600));
            }
            Due.state(changes + " changes: no more", desk::redo);
            counts(changes + " changes: all again", desk, taken, 0);
        }
    }

    private static void atMost20Groups() {
        OvertureDesk desk = new OvertureDesk();
        for (int i = 1; i <= 21; i++) {
            int tick = i;
            Due.is("group " + i, Math.min(20, i - 1), desk::openGroup);
            desk.write(0, tick, 1, 60, 60);
            desk.write(1, tick, 1, 60, 60);
            Due.is("group " + i, true, desk::closeGroup);
            Due.is("groups", Math.min(20, i), desk::undos);
        }
        desk.openGroup();
        Due.is("an empty one pushes none out", false, desk::closeGroup);
        for (int i = 19; i >= 0; i--) {
            Due.is("groups left", i, desk::undo);
        }
        Due.state("no more groups", desk::undo);
        Due.is("the first one stays", 2, desk::notes);
        counts("the first one stays", desk, 0, 20);
    }

    /** 20 changes, all taken back, and all done again; then 21. */
    private static void twentyAndNoneMore() {
        OvertureDesk desk = new OvertureDesk();
        for (int i = 0; i < 20; i++) {
            desk.write(0, i, 1, 60, 60);
        }
        for (int i = 20; i > 0; i--) {
            counts("down", desk, i, 20 - i);
            desk.undo();
            int left = i - 1;
            Due.is("notes", left, desk::notes);
        }
        counts("all taken back", desk, 0, 20);
        Due.state("no more", desk::undo);
        for (int i = 19; i >= 0; i--) {
            Due.is("up", i, desk::redo);
            int left = 20 - i;
            Due.is("notes", left, desk::notes);
        }
        Due.state("no more", desk::redo);
        counts("all done again", desk, 20, 0);
        desk.write(0, 20, 1, 60, 60);
        counts("21", desk, 20, 0);
        for (int i = 19; i >= 0; i--) {
            Due.is("down again", i, desk::undo);
        }
        Due.state("no more", desk::undo);
        Due.is("the oldest one stays", 1, desk::notes);
        desk.remove(0);
        counts("what was taken back is gone", desk, 1, 0);
    }

    private static void latestFirst() {
        OvertureDesk desk = new OvertureDesk();
        desk.write(0, 0, 1, 60, 60);
        desk.setMeter(0, 3, 4);
        desk.setTrack(0, false, false, 7, 0);
        desk.undo();
        Due.is("the track", 60, () -> desk.event(0, 2));
        Due.is("not the meter", 288, () -> desk.tickOfBar(1));
        desk.undo();
        Due.is("the meter", 384, () -> desk.tickOfBar(1));
        Due.is("not the note", 1, desk::notes);
        desk.undo();
        Due.is("the note", 0, desk::notes);
        desk.redo();
        Due.is("the note again", 1, desk::notes);
        Due.is("not the meter", 384, () -> desk.tickOfBar(1));
        desk.redo();
        Due.is("the meter again", 288, () -> desk.tickOfBar(1));
        Due.is("not the track", 60, () -> desk.event(0, 2));
        desk.redo();
        Due.is("the track again", 67, () -> desk.event(0, 2));
    }

    /** "What was taken back can be done again, till the next CHANGE is made" */
    private static void doneAgainTillTheNextChange() {
        for (int i = 0; i < KINDS.length; i++) {
            OvertureDesk desk = start();
            desk.setTrack(5, false, false, 1, 1);
            desk.setTrack(5, false, false, 2, 2);
            desk.undo();
            desk.undo();
            counts("two taken back", desk, 1, 2);
            Calls.call(desk, KINDS[i], KINDS_ARGS[i]);
            counts(KINDS[i] + ": both are gone", desk, 2, 0);
            Due.state(KINDS[i] + ": both are gone", desk::redo);
            Due.is("undo", 1, desk::undo);
            counts("it alone can be done again", desk, 1, 1);
        }
        OvertureDesk grouped = halfway();
        grouped.openGroup();
        grouped.write(4, 0, 1, 60, 60);
        Due.is("till the group is closed", 1, grouped::redos);
        grouped.closeGroup();
        Due.is("with the group", 0, grouped::redos);
        OvertureDesk alike = new OvertureDesk();
        alike.write(0, 0, 1, 60, 60);
        alike.undo();
        alike.write(0, 0, 1, 60, 60);
        counts("the same change once more is one", alike, 1, 0);
    }

    /** "(taking back and doing again are none)" */
    private static void takingBackIsNoChange() {
        OvertureDesk desk = new OvertureDesk();
        desk.write(0, 0, 1, 60, 60);
        desk.write(0, 1, 1, 60, 60);
        desk.write(0, 2, 1, 60, 60);
        for (int i = 0; i < 25; i++) {
            Due.is("undo", 2, desk::undo);
            Due.is("undo", 1, desk::undo);
            counts("two taken back", desk, 1, 2);
            Due.is("one note", 1, desk::notes);
            Due.is("redo", 1, desk::redo);
            counts("one taken back", desk, 2, 1);
            Due.is("redo", 0, desk::redo);
            Due.is("three notes", 3, desk::notes);
        }
    }

    /** "The CLIPBOARD is not part of it." */
    private static void clipboardIsNoPart() {
        OvertureDesk desk = new OvertureDesk();
        desk.write(0, 0, 1, 60, 60);
        desk.undo();
        Due.is("copy of none", 0, () -> desk.copy(-1, 0, 9600));
        counts("copy is no change", desk, 0, 1);
        desk.redo();
        Due.is("copy", 1, () -> desk.copy(-1, 0, 9600));
        counts("copy is no change", desk, 1, 0);
        desk.undo();
        Due.is("it stays on the clipboard", 1, () -> desk.paste(7));
        Due.is("where it was told", 7, () -> desk.note(0, 1));
        desk.undo();
        desk.openGroup();
        desk.copy(-1, 0, 9600);
        Due.is("copied in a group", false, desk::closeGroup);
        counts("copy in a group is no change", desk, 0, 1);
        desk.redo();
        Due.is("emptied in a group", 0, () -> desk.paste(9));
        counts("to paste none is no change", desk, 1, 0);
        clipboardIsNotTakenBack();
    }

    /** What was copied last stays, whatever is taken back and done again, and also what is pasted stays. */
    private static void clipboardIsNotTakenBack() {
        OvertureDesk desk = new OvertureDesk();
        desk.write(0, 100, 1, 60, 60);
        desk.copy(0, 100, 101);
        desk.write(1, 200, 1, 60, 60);
        desk.write(1, 201, 1, 60, 60);
        desk.copy(1, 200, 202);
        desk.undo();
        desk.undo();
        Due.is("the later copy, behind a taking back", 2, () -> desk.paste(300));
        desk.undo();
        desk.redo();
        Due.is("behind a doing again", 2, () -> desk.paste(400));
        Due.is("once more", 2, () -> desk.paste(500));
        desk.copy(0, 100, 101);
        desk.undo();
        desk.redo();
        Due.is("the latest copy", 1, () -> desk.paste(600));
        Due.is("on its own track", 600, () -> desk.note(1, 1));
        desk.openGroup();
        desk.copy(1, 300, 302);
        desk.closeGroup();
        Due.is("a copy in a group", 2, () -> desk.paste(700));
    }
}
