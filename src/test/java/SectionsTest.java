/** "What it is", and the sections 1 and 2: each sentence that names a boundary. */
public final class SectionsTest {
    public static void main(String[] args) {
        usedForAtMost512Calls();
        ticksOfTheSong();
        tracksAtFirst();
        shiftsAndDelays();
        atMost60NotesWritten();
        atMost60NotesSplit();
        atMost60NotesPasted();
        factsOfANote();
        endsAbove9599();
        liesUpToTheTickAheadOfItsEnd();
        orderOfPlaces();
        orderBehindEachCall();
        notesJustAlike();
        ranges();
        speedAtFirst();
        ticksTakeMomentsNotCut();
        atMost10OtherSpeeds();
        speedsGoOnUpToTheNextOne();
        eachStretchIsCutByItself();
        meterAtFirst();
        beatsAndBars();
        atMost10OtherMeters();
        metersGoOnUpToTheNextOne();
        Due.end("SectionsTest");
    }

    private static void note(String what, OvertureDesk desk, int place, int... facts) {
        for (int i = 0; i < facts.length; i++) {
            int fact = i;
            Due.is(what + ": note(" + place + ", " + fact + ")", facts[i], () -> desk.note(place, fact));
        }
    }

    // ---- What it is

    /** "An object is used for at most 512 calls": the 512th one answers as the first one does. */
    private static void usedForAtMost512Calls() {
        OvertureDesk writing = new OvertureDesk();
        for (int i = 0; i < 255; i++) {
            writing.write(0, i, 1, 60, 60);
            writing.remove(0);
        }
        Due.is("511th call", 20, writing::undos);
        Due.is("512th call", 0, writing::notes);
        OvertureDesk copying = new OvertureDesk();
        copying.write(0, 0, 960, 60, 60);
        for (int i = 1; i <= 127; i++) {
            int tick = i;
            copying.copy(0, 0, 9600);
            copying.paste(tick);
            copying.undo();
            copying.setSpeed(0, 200 + tick);
        }
        Due.is("510th call", 1, copying::notes);
        Due.is("511th call", 20, copying::undos);
        Due.is("512th call", 62500, () -> copying.timeOf(327));
        OvertureDesk grouping = new OvertureDesk();
        for (int i = 1; i <= 127; i++) {
            int n = 1 + i % 16;
            grouping.openGroup();
            grouping.setMeter(0, n, 4);
            grouping.setLoop(0, i, 1 + i % 8);
            Due.is("group " + i, true, grouping::closeGroup);
        }
        Due.is("509th call", 20, grouping::undos);
        Due.is("510th call", 19, grouping::undo);
        Due.is("511th call", 0, grouping::redo);
        Due.is("512th call", 16 * 96, () -> grouping.tickOfBar(1));
    }

    // ---- Section 1

    /** "the song has the TICKS 0 to 9599" */
    private static void ticksOfTheSong() {
        OvertureDesk desk = new OvertureDesk();
        Due.argument("tick -1", () -> desk.write(0, -1, 1, 60, 60));
        Due.is("tick 0", 0, () -> desk.write(0, 0, 1, 60, 60));
        Due.is("tick 9599", 1, () -> desk.write(0, 9599, 1, 60, 60));
        Due.argument("tick 9600", () -> desk.write(0, 9600, 1, 60, 60));
        note("tick 0", desk, 0, 0, 0);
        note("tick 9599", desk, 1, 0, 9599);
        Due.is("both are in the greatest range", 2, () -> desk.copy(-1, 0, 9600));
    }

    /** "There are 6 TRACKS, 0 to 5 ... (all no, and 0, at first)" */
    private static void tracksAtFirst() {
        OvertureDesk desk = new OvertureDesk();
        for (int track = 0; track <= 5; track++) {
            desk.write(track, 60, 10, 60, 60);
        }
        Due.is("none is silent or alone at first", 12, desk::events);
        for (int event = 0; event < 6; event++) {
            int on = event;
            Due.is("track of " + on, on, () -> desk.event(on, 1));
            Due.is("no shift at first", 60, () -> desk.event(on, 2));
            Due.is("no delay at first", 60, () -> desk.event(on, 0));
            Due.is("no shift at first", 0, () -> desk.setTrack(on, false, false, 0, 0));
        }
        Due.is("to set what was at first is no change", 6, desk::undos);
        Due.argument("track -1", () -> desk.write(-1, 60, 10, 60, 60));
        Due.argument("track 6", () -> desk.write(6, 60, 10, 60, 60));
        Due.index("track -1", () -> desk.setTrack(-1, false, false, 0, 0));
        Due.index("track 6", () -> desk.setTrack(6, false, false, 0, 0));
    }

    /** "it has a SHIFT, -24 to 24, and a DELAY, -48 to 48 TICKS" */
    private static void shiftsAndDelays() {
        for (int track = 0; track <= 5; track++) {
            OvertureDesk desk = new OvertureDesk();
            int at = track;
            desk.write(at, 60, 10, 60, 60);
            Due.is("greatest", 0, () -> desk.setTrack(at, false, false, 24, 48));
            Due.is("greatest shift", 84, () -> desk.event(0, 2));
            Due.is("greatest delay", 108, () -> desk.event(0, 0));
            Due.is("least", 24, () -> desk.setTrack(at, false, false, -24, -48));
            Due.is("least shift", 36, () -> desk.event(0, 2));
            Due.is("least delay", 12, () -> desk.event(0, 0));
            Due.argument("shift 25", () -> desk.setTrack(at, false, false, 25, 0));
            Due.argument("shift -25", () -> desk.setTrack(at, false, false, -25, 0));
            Due.argument("delay 49", () -> desk.setTrack(at, false, false, 0, 49));
            Due.argument("delay -49", () -> desk.setTrack(at, false, false, 0, -49));
            Due.is("refused ones change nothing", -24, () -> desk.setTrack(at, false, false, 0, 0));
        }
    }

    /** "There are at most 60 NOTES" */
    private static void atMost60NotesWritten() {
        OvertureDesk desk = new OvertureDesk();
        for (int i = 0; i < 60; i++) {
            int tick = i;
            Due.is("note " + i, i, () -> desk.write(3, tick, 1, 60, 60));
        }
        Due.is("60", 60, desk::notes);
        Due.state("61st", () -> desk.write(0, 0, 1, 60, 60));
        Due.is("still 60", 60, desk::notes);
        note("the first one stays", desk, 0, 3, 0, 1, 60, 60);
        note("the last one stays", desk, 59, 3, 59, 1, 60, 60);
        desk.remove(30);
        Due.is("60th again", 0, () -> desk.write(0, 0, 1, 60, 60));
        Due.state("61st again", () -> desk.write(0, 0, 1, 60, 60));
        desk.undo();
        Due.is("60th behind a taking back", 59, () -> desk.write(5, 0, 1, 60, 60));
    }

    private static void atMost60NotesSplit() {
        OvertureDesk desk = new OvertureDesk();
        desk.write(0, 0, 960, 60, 60);
        for (int i = 1; i <= 59; i++) {
            int place = i - 1;
            Due.is("split " + i, i + 1, () -> desk.split(place, place + 1));
        }
        Due.state("60 can not be split", () -> desk.split(59, 500));
        Due.is("still 60", 60, desk::notes);
        note("the last one", desk, 59, 0, 59, 901, 60, 60);
        desk.remove(0);
        Due.is("59 can", 60, () -> desk.split(58, 500));
    }

    private static void atMost60NotesPasted() {
        OvertureDesk desk = new OvertureDesk();
        for (int i = 0; i < 30; i++) {
            desk.write(i % 6, 100 + i, 10, 60, 60);
        }
        Due.is("30", 30, () -> desk.copy(-1, 100, 9600));
        Due.is("to 60", 30, () -> desk.paste(9000));
        Due.state("to 90", () -> desk.paste(9000));
        Due.state("to 61", () -> desk.paste(9599));
        Due.is("still 60", 60, desk::notes);
        desk.remove(0);
        Due.state("59 and two", () -> desk.paste(9598));
        Due.is("59 and one, 29 left out", 1, () -> desk.paste(9599));
        Due.is("60", 60, desk::notes);
        desk.copy(0, 9599, 9600);
        Due.state("60 and one", () -> desk.paste(0));
        desk.copy(0, 5000, 5001);
        Due.is("60 and none", 0, () -> desk.paste(0));
    }

    /** "a LENGTH, 1 to 960 TICKS, a PITCH, 0 to 127, and a FORCE, 1 to 127" */
    private static void factsOfANote() {
        int[] least = {0, 0, 1, 0, 1};
        int[] most = {5, 9599, 960, 127, 127};
        for (int which = 0; which < 5; which++) {
            int[] one = {2, 100, 50, 60, 70};
            int fact = which;
            for (int value : new int[] {least[which], least[which] + 1, most[which] - 1, most[which]}) {
                OvertureDesk desk = new OvertureDesk();
                one[which] = value;
                Calls.call(desk, "write", one);
                note(Calls.text("write", one), desk, 0, one);
            }
            for (int value : new int[] {least[which] - 1, most[which] + 1}) {
                OvertureDesk desk = new OvertureDesk();
                one[which] = value;
                Due.argument(Calls.text("write", one) + " fact " + fact, () -> Calls.call(desk, "write", one));
                Due.is("nothing is written", 0, desk::notes);
            }
        }
        OvertureDesk ends = new OvertureDesk();
        Calls.call(ends, "write", most);
        Calls.call(ends, "write", least);
        note("all least", ends, 0, least);
        note("all greatest", ends, 1, most);
    }

    /** "Its END is its beginning + LENGTH (this can be above 9599)." */
    private static void endsAbove9599() {
        OvertureDesk desk = new OvertureDesk();
        desk.write(0, 8640, 960, 60, 60);
        Due.is("end 9600", 9600, desk::playedTo);
        desk.write(0, 9599, 1, 60, 60);
        Due.is("end 9600", 9600, desk::playedTo);
        desk.write(0, 8641, 960, 60, 60);
        Due.is("end 9601", 9601, desk::playedTo);
        desk.write(0, 9599, 960, 60, 60);
        Due.is("end 10559", 10559, desk::playedTo);
        Due.is("it sounds above 9599", 1, () -> desk.sounding(10558));
        Due.is("up to its end", 0, () -> desk.sounding(10559));
        Due.is("those that meet at 9599 alone", 6, desk::clashes);
        Due.argument("no tick to split at", () -> desk.split(3, 9600));
    }

    /** "It lies at TICKS from its beginning on, up to the one ahead of its END." */
    private static void liesUpToTheTickAheadOfItsEnd() {
        OvertureDesk desk = new OvertureDesk();
        desk.write(0, 100, 50, 61, 60);
        int[][] told = {{0, 0}, {99, 0}, {100, 1}, {149, 1}, {150, 0}, {9599, 0}};
        for (int[] at : told) {
            Due.is("chordAt(" + at[0] + ")", at[1] << 1, () -> desk.chordAt(at[0]));
            Due.is("sounding(" + at[0] + ")", at[1], () -> desk.sounding(at[0]));
        }
        desk.write(0, 99, 1, 61, 60);
        desk.write(0, 150, 1, 61, 60);
        Due.is("neighbours do not clash", 0, desk::clashes);
        desk.write(0, 149, 1, 61, 60);
        desk.write(0, 100, 1, 61, 60);
        Due.is("at its ends they do", 2, desk::clashes);
        OvertureDesk shortest = new OvertureDesk();
        shortest.write(0, 7, 1, 60, 60);
        Due.is("one tick", 0, () -> shortest.chordAt(6));
        Due.is("one tick", 1, () -> shortest.chordAt(7));
        Due.is("one tick", 0, () -> shortest.chordAt(8));
    }

    /**
     * "by their TRACKS, of one TRACK by their beginnings, of these by their PITCHES, of these by their LENGTHS ...
     * and then the one with the smaller FORCE": the greatest of all that counts less does not weigh against it.
     */
    private static void orderOfPlaces() {
        int[][] order = {{0, 9599, 960, 127, 127}, {1, 0, 960, 127, 127}, {1, 1, 960, 0, 127}, {1, 1, 960, 1, 127},
            {1, 1, 960, 2, 126}, {1, 1, 960, 2, 127}, {1, 2, 959, 0, 127}, {1, 2, 960, 0, 1}, {1, 2, 960, 0, 2},
            {1, 2, 1, 1, 1}, {1, 9599, 1, 0, 1}, {2, 0, 1, 0, 1}, {5, 0, 1, 0, 1}};
        for (int step = 1; step < order.length; step++) {
            OvertureDesk desk = new OvertureDesk();
            for (int i = 0; i < order.length; i++) {
                Calls.call(desk, "write", order[i * step % order.length]);
            }
            for (int place = 0; place < order.length; place++) {
                note("written by steps of " + step, desk, place, order[place]);
            }
        }
    }

    /** The places are in order behind each call that makes notes other. */
    private static void orderBehindEachCall() {
        OvertureDesk desk = new OvertureDesk();
        desk.write(0, 10, 10, 60, 50);
        desk.write(0, 20, 10, 55, 40);
        desk.quantise(0, 20, 21, 96, 0, 100);
        note("quantised ahead", desk, 0, 0, 0, 10, 55, 40);
        desk.quantise(0, 10, 11, 96, 0, 100);
        note("quantised to one tick", desk, 0, 0, 0, 10, 55, 40);
        note("quantised to one tick", desk, 1, 0, 0, 10, 60, 50);
        desk.write(1, 0, 20, 60, 50);
        desk.write(1, 0, 10, 70, 60);
        desk.split(2, 5);
        note("split", desk, 2, 1, 0, 5, 60, 50);
        note("split", desk, 3, 1, 0, 10, 70, 60);
        note("split", desk, 4, 1, 5, 15, 60, 50);
        desk.copy(1, 5, 6);
        desk.paste(0);
        note("pasted", desk, 3, 1, 0, 15, 60, 50);
        OvertureDesk forces = new OvertureDesk();
        forces.write(0, 0, 10, 60, 100);
        forces.write(0, 0, 10, 60, 3);
        forces.weigh(0, 0, 1, 50);
        note("weighed", forces, 0, 0, 0, 10, 60, 1);
        note("weighed", forces, 1, 0, 0, 10, 60, 50);
        forces.transpose(0, 0, 1, -60);
        note("transposed", forces, 0, 0, 0, 10, 0, 1);
        note("transposed", forces, 1, 0, 0, 10, 0, 50);
    }

    /** "two that are just alike are the same in all that is told" */
    private static void notesJustAlike() {
        OvertureDesk desk = new OvertureDesk();
        for (int i = 0; i < 3; i++) {
            int place = i;
            Due.is("its place is the last one", place, () -> desk.write(1, 50, 20, 60, 70));
        }
        desk.write(1, 50, 20, 60, 71);
        Due.is("the last one, ahead of others", 3, () -> desk.write(1, 50, 20, 60, 70));
        for (int place = 0; place < 4; place++) {
            note("alike", desk, place, 1, 50, 20, 60, 70);
        }
        note("the other one", desk, 4, 1, 50, 20, 60, 71);
        Due.is("each is in a range", 5, () -> desk.copy(1, 50, 51));
        Due.is("each is played", 5, () -> desk.sounding(69));
        Due.is("each pair clashes", 10, desk::clashes);
        desk.remove(1);
        Due.is("one of them is removed", 4, desk::notes);
        note("the others stay", desk, 2, 1, 50, 20, 60, 70);
        note("the others stay", desk, 3, 1, 50, 20, 60, 71);
    }

    /** "RANGES are of a TRACK, or of all of them (-1), from a TICK on up to the one ahead of another one" */
    private static void ranges() {
        int[][] told = {{-1, 100, 200, 4}, {-1, 99, 100, 1}, {-1, 100, 101, 2}, {-1, 101, 199, 0}, {-1, 199, 200, 2},
            {-1, 200, 201, 1}, {2, 100, 200, 2}, {2, 99, 201, 4}, {3, 0, 9600, 2}, {4, 0, 9600, 0}, {-1, 0, 9600, 6},
            {-1, 0, 1, 0}, {-1, 9599, 9600, 0}, {2, 149, 199, 0}};
        for (int[] r : told) {
            OvertureDesk desk = new OvertureDesk();
            for (int tick : new int[] {99, 100, 199, 200}) {
                desk.write(2, tick, 50, 60, 60);
            }
            desk.write(3, 100, 960, 60, 60);
            desk.write(3, 199, 960, 60, 60);
            String what = "range " + r[0] + ", " + r[1] + ", " + r[2];
            Due.is(what + " copy", r[3], () -> desk.copy(r[0], r[1], r[2]));
            Due.is(what + " wouldMove", r[3], () -> desk.wouldMove(r[0], r[1], r[2], 384));
            Due.is(what + " transpose", r[3], () -> desk.transpose(r[0], r[1], r[2], 1));
            Due.is(what + " weigh", r[3], () -> desk.weigh(r[0], r[1], r[2], 200));
            int shifted = 0;
            for (int place = 0; place < 6; place++) {
                boolean isShifted = desk.note(place, 3) == 61;
                boolean isWeighed = desk.note(place, 4) == 120;
                int start = desk.note(place, 1);
                boolean isIn = (r[0] == -1 || r[0] == desk.note(place, 0)) && r[1] <= start && start < r[2];
                Due.is(what + ": only those in it are shifted", isIn, () -> isShifted);
                Due.is(what + ": only those in it are weighed", isIn, () -> isWeighed);
            }
            Due.is(what + " quantise", r[3], () -> desk.quantise(r[0], r[1], r[2], 384, 0, 100));
        }
    }

    // ---- Section 2

    /** "At the TICK 0 there is one of 1200" */
    private static void speedAtFirst() {
        OvertureDesk desk = new OvertureDesk();
        Due.is("120 quarters in a minute", 600000, () -> desk.timeOf(120 * 96));
        Due.is("it is the only one", 1, () -> desk.setSpeed(0, 1200));
        Due.is("to set it is no change", 0, desk::undos);
        Due.state("it can not be taken away", () -> desk.setSpeed(0, 0));
        Due.argument("199", () -> desk.setSpeed(0, 199));
        Due.argument("3001", () -> desk.setSpeed(0, 3001));
        Due.is("200", 1, () -> desk.setSpeed(0, 200));
        Due.is("20 quarters in a minute", 600000, () -> desk.timeOf(20 * 96));
        Due.is("3000", 1, () -> desk.setSpeed(0, 3000));
        Due.is("300 quarters in a minute", 600000, () -> desk.timeOf(300 * 96));
    }

    /** "a TICK takes 62500 / SPEED MOMENTS ..., not cut" */
    private static void ticksTakeMomentsNotCut() {
        OvertureDesk desk = new OvertureDesk();
        desk.setSpeed(0, 700);
        int[][] told = {{0, 0}, {1, 89}, {2, 178}, {3, 267}, {4, 357}, {7, 625}, {9599, 857053}, {99999, 8928482}};
        for (int[] at : told) {
            Due.is("timeOf(" + at[0] + ") at 700", at[1], () -> desk.timeOf(at[0]));
        }
        desk.setSpeed(0, 200);
        Due.is("the slowest, the last tick", 31249687, () -> desk.timeOf(99999));
        desk.setSpeed(0, 3000);
        Due.is("the fastest, the last tick", 2083312, () -> desk.timeOf(99999));
        Due.is("the fastest, one tick", 20, () -> desk.timeOf(1));
    }

    /** "at most 10 others can begin at other TICKS" */
    private static void atMost10OtherSpeeds() {
        OvertureDesk desk = new OvertureDesk();
        for (int i = 1; i <= 10; i++) {
            int count = i;
            Due.is("the other one " + i, i + 1, () -> desk.setSpeed(9600 - count, 1000 + count));
        }
        for (int tick : new int[] {1, 9589, 5000}) {
            Due.state("the 11th other one at " + tick, () -> desk.setSpeed(tick, 1200));
        }
        Due.is("no change", 10, desk::undos);
        Due.is("in the place of the first", 11, () -> desk.setSpeed(0, 200));
        Due.is("in the place of another", 11, () -> desk.setSpeed(9590, 3000));
        Due.is("in the place of the last", 11, () -> desk.setSpeed(9599, 200));
        Due.is("all of them hold", 9590 * 62500 / 200 + 20 + 61 + 7 * 62 + 312, () -> desk.timeOf(9600));
        Due.is("one less", 10, () -> desk.setSpeed(9595, 0));
        Due.is("another one", 11, () -> desk.setSpeed(1, 200));
        Due.state("no more", () -> desk.setSpeed(2, 200));
        desk.undo();
        Due.is("behind a taking back", 11, () -> desk.setSpeed(2, 200));
    }

    /** "each goes on up to the next one" */
    private static void speedsGoOnUpToTheNextOne() {
        OvertureDesk desk = new OvertureDesk();
        desk.setSpeed(100, 500);
        desk.setSpeed(9599, 2500);
        int[][] told = {{99, 5156}, {100, 5208}, {101, 5333}, {9598, 1192458}, {9599, 1192583}, {9600, 1192608},
            {99999, 3452583}};
        for (int[] at : told) {
            Due.is("timeOf(" + at[0] + ")", at[1], () -> desk.timeOf(at[0]));
        }
        desk.setSpeed(100, 0);
        Due.is("the one ahead goes on then", 499947 + 25, () -> desk.timeOf(9600));
    }

    /** "(each stretch cut by itself, also if the next one has the same SPEED)" */
    private static void eachStretchIsCutByItself() {
        OvertureDesk desk = new OvertureDesk();
        Due.is("one stretch", 104 * 10 + 1, () -> desk.timeOf(20));
        for (int i = 1; i <= 10; i++) {
            desk.setSpeed(i, 1200);
        }
        Due.is("ten stretches of one tick and one of ten", 52 * 10 + 520, () -> desk.timeOf(20));
        Due.is("eleven stretches of one tick", 52 * 11, () -> desk.timeOf(11));
        Due.is("five stretches of one tick", 52 * 5, () -> desk.timeOf(5));
        Due.is("the same speed is another one", 10, desk::undos);
    }

    /** "At the BAR 0, which begins at the TICK 0, there is 4 / 4" */
    private static void meterAtFirst() {
        OvertureDesk desk = new OvertureDesk();
        Due.is("bar 0", 0, () -> desk.tickOfBar(0));
        Due.is("bar 1", 384, () -> desk.tickOfBar(1));
        Due.is("4 beats", 3, () -> desk.beatOf(383));
        Due.is("of 96 ticks", 0, () -> desk.beatOf(95));
        Due.is("of 96 ticks", 1, () -> desk.beatOf(96));
        Due.is("it is the only one", 1, () -> desk.setMeter(0, 4, 4));
        Due.is("to set it is no change", 0, desk::undos);
        Due.state("it can not be taken away", () -> desk.setMeter(0, 0, 4));
    }

    /** "n, 1 to 16, beats in a BAR, each of 384 / d TICKS, d being 2, 4, 8 or 16" */
    private static void beatsAndBars() {
        for (int d = 2; d <= 16; d *= 2) {
            OvertureDesk desk = new OvertureDesk();
            int beat = 384 / d;
            int below = d;
            for (int n = 1; n <= 16; n++) {
                int bar = n * beat;
                int beats = n;
                String what = n + " / " + d;
                Due.is(what, 1, () -> desk.setMeter(0, beats, below));
                Due.is(what + ": bar 1", bar, () -> desk.tickOfBar(1));
                Due.is(what + ": bar 999", 999 * bar, () -> desk.tickOfBar(999));
                Due.is(what + ": its last tick", 0, () -> desk.barOf(bar - 1));
                Due.is(what + ": the next bar", 1, () -> desk.barOf(bar));
                Due.is(what + ": its last beat", beats - 1, () -> desk.beatOf(bar - 1));
                Due.is(what + ": the first beat ends", 0, () -> desk.beatOf(beat - 1));
                Due.is(what + ": the next beat", beats == 1 ? 0 : 1, () -> desk.beatOf(beat));
                Due.is(what + ": the last tick", 99999 / bar, () -> desk.barOf(99999));
                Due.is(what + ": the last tick", 99999 % bar / beat, () -> desk.beatOf(99999));
            }
            Due.argument("17 / " + d, () -> desk.setMeter(0, 17, below));
            Due.argument("-1 / " + d, () -> desk.setMeter(0, -1, below));
        }
    }

    /** "at most 10 others can begin with other BARS, 1 to 99" */
    private static void atMost10OtherMeters() {
        OvertureDesk desk = new OvertureDesk();
        for (int i = 1; i <= 10; i++) {
            int count = i;
            Due.is("the other one " + i, i + 1, () -> desk.setMeter(100 - count, count, 8));
        }
        for (int bar : new int[] {1, 89, 50}) {
            Due.state("the 11th other one with " + bar, () -> desk.setMeter(bar, 4, 4));
        }
        Due.is("no change", 10, desk::undos);
        Due.is("in the place of the first", 11, () -> desk.setMeter(0, 1, 16));
        Due.is("in the place of another", 11, () -> desk.setMeter(90, 16, 2));
        Due.is("in the place of the last", 11, () -> desk.setMeter(99, 1, 2));
        Due.is("all of them hold", 90 * 24 + 16 * 192 + 48 * (9 + 8 + 7 + 6 + 5 + 4 + 3 + 2) + 192,
                () -> desk.tickOfBar(100));
        Due.is("one less", 10, () -> desk.setMeter(95, 0, 4));
        Due.is("another one", 11, () -> desk.setMeter(1, 4, 4));
        Due.state("no more", () -> desk.setMeter(2, 4, 4));
        desk.undo();
        Due.is("behind a taking back", 11, () -> desk.setMeter(2, 4, 4));
        Due.argument("bar 100", () -> desk.setMeter(100, 4, 4));
        Due.argument("bar -1", () -> desk.setMeter(-1, 4, 4));
    }

    /** "each goes on up to the next one" */
    private static void metersGoOnUpToTheNextOne() {
        OvertureDesk desk = new OvertureDesk();
        desk.setMeter(1, 3, 4);
        desk.setMeter(99, 5, 16);
        int last = 384 + 98 * 288;
        int[][] told = {{383, 0, 3}, {384, 1, 0}, {671, 1, 2}, {672, 2, 0}, {last - 1, 98, 2}, {last, 99, 0},
            {last + 119, 99, 4}, {last + 120, 100, 0}, {99999, 99 + (99999 - last) / 120, (99999 - last) % 120 / 24}};
        for (int[] at : told) {
            Due.is("barOf(" + at[0] + ")", at[1], () -> desk.barOf(at[0]));
            Due.is("beatOf(" + at[0] + ")", at[2], () -> desk.beatOf(at[0]));
        }
        Due.is("bar 98", last - 288, () -> desk.tickOfBar(98));
        Due.is("bar 99", last, () -> desk.tickOfBar(99));
        Due.is("bar 999", last + 900 * 120, () -> desk.tickOfBar(999));
        desk.setMeter(1, 0, 4);
        Due.is("the one ahead goes on then", 99 * 384, () -> desk.tickOfBar(99));
    }
}
