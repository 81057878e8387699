/** Promises 1 to 11: the notes. */
public final class NotesTest {
    private static final int[] OUTSIDE_INT = {Integer.MIN_VALUE, Integer.MAX_VALUE};

    public static void main(String[] args) {
        promise1NewObject();
        promise2Write();
        promise2Order();
        promise3Remove();
        promise4Split();
        promise5Transpose();
        promise6Weigh();
        promise7Quantise();
        promise7Grid();
        promise8Copy();
        promise9Paste();
        promise10Notes();
        promise11Note();
        ranges();
        removedNotesAreGone();
        Due.end("NotesTest");
    }

    private static OvertureDesk full() {
        OvertureDesk desk = new OvertureDesk();
        for (int i = 0; i < 60; i++) {
            desk.write(i % 6, i * 100, 50, 60, 100);
        }
        return desk;
    }

    private static void note(String what, OvertureDesk desk, int place, int... facts) {
        for (int i = 0; i < facts.length; i++) {
            int fact = i;
            Due.is(what + ": note(" + place + ", " + fact + ")", facts[i], () -> desk.note(place, fact));
        }
    }

    private static void promise1NewObject() {
        OvertureDesk desk = new OvertureDesk();
        Due.is("1: notes", 0, desk::notes);
        Due.is("1: undos", 0, desk::undos);
        Due.is("1: redos", 0, desk::redos);
        Due.is("1: events", 0, desk::events);
        Due.is("1: digest", -7898079466600982096L, desk::digest);
        OvertureDesk other = new OvertureDesk();
        desk.write(0, 0, 1, 0, 1);
        Due.is("1: another desk", 0, other::notes);
    }

    private static void promise2Write() {
        OvertureDesk desk = new OvertureDesk();
        Due.is("2: first", 0, () -> desk.write(3, 100, 10, 60, 50));
        Due.is("2: least", 0, () -> desk.write(0, 0, 1, 0, 1));
        Due.is("2: greatest", 2, () -> desk.write(5, 9599, 960, 127, 127));
        note("2: least", desk, 0, 0, 0, 1, 0, 1);
        note("2: middle", desk, 1, 3, 100, 10, 60, 50);
        note("2: greatest", desk, 2, 5, 9599, 960, 127, 127);
        Due.argument("2: track -1", () -> desk.write(-1, 0, 1, 0, 1));
        Due.argument("2: track 6", () -> desk.write(6, 0, 1, 0, 1));
        Due.argument("2: tick -1", () -> desk.write(0, -1, 1, 0, 1));
        Due.argument("2: tick 9600", () -> desk.write(0, 9600, 1, 0, 1));
        Due.argument("2: length 0", () -> desk.write(0, 0, 0, 0, 1));
        Due.argument("2: length 961", () -> desk.write(0, 0, 961, 0, 1));
        Due.argument("2: pitch -1", () -> desk.write(0, 0, 1, -1, 1));
        Due.argument("2: pitch 128", () -> desk.write(0, 0, 1, 128, 1));
        Due.argument("2: force 0", () -> desk.write(0, 0, 1, 0, 0));
        Due.argument("2: force 128", () -> desk.write(0, 0, 1, 0, 128));
        for (int far : OUTSIDE_INT) {
            Due.argument("2: far track", () -> desk.write(far, 0, 1, 0, 1));
            Due.argument("2: far tick", () -> desk.write(0, far, 1, 0, 1));
            Due.argument("2: far length", () -> desk.write(0, 0, far, 0, 1));
            Due.argument("2: far pitch", () -> desk.write(0, 0, 1, far, 1));
            Due.argument("2: far force", () -> desk.write(0, 0, 1, 0, far));
        }
        Due.is("2: nothing written", 3, desk::notes);
        OvertureDesk full = full();
        Due.state("2: 61st", () -> full.write(0, 0, 1, 0, 1));
        Due.argument("2: 61st and wrong", () -> full.write(0, 0, 1, 0, 0));
        Due.is("2: still 60", 60, full::notes);
    }

    private static void promise2Order() {
        OvertureDesk desk = new OvertureDesk();
        desk.write(1, 50, 20, 60, 50);
        Due.is("2: smaller track", 0, () -> desk.write(0, 90, 90, 90, 90));
        Due.is("2: smaller beginning", 1, () -> desk.write(1, 49, 90, 90, 90));
        Due.is("2: smaller pitch", 2, () -> desk.write(1, 50, 90, 59, 90));
        Due.is("2: smaller length", 3, () -> desk.write(1, 50, 19, 60, 90));
        Due.is("2: smaller force", 4, () -> desk.write(1, 50, 20, 60, 49));
        Due.is("2: just alike", 6, () -> desk.write(1, 50, 20, 60, 50));
        Due.is("2: just alike again", 7, () -> desk.write(1, 50, 20, 60, 50));
        Due.is("2: greater force", 8, () -> desk.write(1, 50, 20, 60, 51));
        Due.is("2: alike ahead of others", 5, () -> desk.write(1, 50, 20, 60, 49));
    }

    private static void promise3Remove() {
        OvertureDesk desk = new OvertureDesk();
        Due.index("3: none", () -> desk.remove(0));
        desk.write(0, 0, 1, 0, 1);
        desk.write(1, 0, 1, 0, 1);
        desk.write(2, 0, 1, 0, 1);
        Due.index("3: place -1", () -> desk.remove(-1));
        Due.index("3: place 3", () -> desk.remove(3));
        Due.index("3: far place", () -> desk.remove(Integer.MAX_VALUE));
        Due.is("3: middle", 2, () -> desk.remove(1));
        note("3: left", desk, 0, 0);
        note("3: left", desk, 1, 2);
        Due.is("3: last", 1, () -> desk.remove(1));
        Due.is("3: first", 0, () -> desk.remove(0));
        OvertureDesk full = full();
        Due.is("3: of 60", 59, () -> full.remove(59));
    }

    private static void promise4Split() {
        OvertureDesk desk = new OvertureDesk();
        Due.index("4: none", () -> desk.split(0, 0));
        desk.write(2, 100, 50, 64, 70);
        Due.index("4: place -1", () -> desk.split(-1, 110));
        Due.index("4: place and tick", () -> desk.split(1, -1));
        Due.argument("4: at its beginning", () -> desk.split(0, 100));
        Due.argument("4: ahead of it", () -> desk.split(0, 99));
        Due.argument("4: at its end", () -> desk.split(0, 150));
        Due.argument("4: negative", () -> desk.split(0, Integer.MIN_VALUE));
        Due.is("4: near its end", 2, () -> desk.split(0, 149));
        note("4: first", desk, 0, 2, 100, 49, 64, 70);
        note("4: second", desk, 1, 2, 149, 1, 64, 70);
        Due.is("4: near its beginning", 3, () -> desk.split(0, 101));
        note("4: shortest", desk, 0, 2, 100, 1, 64, 70);
        note("4: rest", desk, 1, 2, 101, 48, 64, 70);
        OvertureDesk late = new OvertureDesk();
        late.write(0, 9590, 100, 60, 60);
        Due.argument("4: above 9599", () -> late.split(0, 9600));
        Due.is("4: at 9599", 2, () -> late.split(0, 9599));
        note("4: at 9599", late, 1, 0, 9599, 91, 60, 60);
        OvertureDesk full = full();
        Due.state("4: 60", () -> full.split(0, 10));
        Due.argument("4: 60 and wrong", () -> full.split(0, 0));
        Due.is("4: nothing split", 60, full::notes);
        full.remove(59);
        Due.is("4: into the last room", 60, () -> full.split(0, 10));
        OvertureDesk chord = new OvertureDesk();
        chord.write(0, 0, 10, 60, 60);
        chord.write(0, 0, 20, 60, 60);
        chord.split(1, 5);
        note("4: in order", chord, 0, 0, 0, 5);
        note("4: in order", chord, 1, 0, 0, 10);
        note("4: in order", chord, 2, 0, 5, 15);
    }

    private static void promise5Transpose() {
        OvertureDesk desk = new OvertureDesk();
        desk.write(0, 0, 10, 60, 60);
        desk.write(0, 10, 10, 120, 60);
        desk.write(1, 0, 10, 5, 60);
        Due.is("5: one track", 2, () -> desk.transpose(0, 0, 9600, 7));
        note("5: one track", desk, 0, 0, 0, 10, 67, 60);
        note("5: greatest", desk, 1, 0, 10, 10, 127, 60);
        note("5: other track", desk, 2, 1, 0, 10, 5, 60);
        Due.state("5: 128", () -> desk.transpose(-1, 0, 9600, 1));
        Due.state("5: -1", () -> desk.transpose(-1, 0, 9600, -6));
        note("5: nothing shifted", desk, 0, 0, 0, 10, 67, 60);
        note("5: nothing shifted", desk, 2, 1, 0, 10, 5, 60);
        Due.state("5: the first place too", () -> desk.transpose(0, 0, 10, 61));
        Due.is("5: to 0", 3, () -> desk.transpose(-1, 0, 9600, -5));
        note("5: to 0", desk, 2, 1, 0, 10, 0, 60);
        Due.is("5: by 0", 1, () -> desk.transpose(1, 0, 1, 0));
        Due.is("5: none in it", 0, () -> desk.transpose(5, 0, 9600, 127));
        Due.is("5: none in it", 0, () -> desk.transpose(5, 0, 9600, -127));
        Due.argument("5: by 128", () -> desk.transpose(0, 0, 1, 128));
        Due.argument("5: by -128", () -> desk.transpose(0, 0, 1, -128));
        Due.argument("5: far by", () -> desk.transpose(0, 0, 1, Integer.MAX_VALUE));
        OvertureDesk same = new OvertureDesk();
        same.write(0, 5, 9, 60, 60);
        same.write(1, 5, 9, 50, 60);
        same.write(0, 5, 3, 61, 60);
        same.transpose(0, 5, 6, 3);
        note("5: order", same, 0, 0, 5, 9, 63, 60);
        note("5: order", same, 1, 0, 5, 3, 64, 60);
    }

    private static void promise6Weigh() {
        OvertureDesk desk = new OvertureDesk();
        desk.write(0, 0, 10, 60, 3);
        desk.write(0, 10, 10, 60, 101);
        desk.write(1, 0, 10, 60, 127);
        Due.is("6: cut", 2, () -> desk.weigh(0, 0, 9600, 50));
        note("6: cut", desk, 0, 0, 0, 10, 60, 1);
        note("6: cut", desk, 1, 0, 10, 10, 60, 50);
        note("6: other track", desk, 2, 1, 0, 10, 60, 127);
        Due.is("6: below 1", 1, () -> desk.weigh(0, 0, 10, 99));
        note("6: below 1", desk, 0, 0, 0, 10, 60, 1);
        Due.is("6: above 127", 3, () -> desk.weigh(-1, 0, 9600, 400));
        note("6: above 127", desk, 0, 0, 0, 10, 60, 4);
        note("6: above 127", desk, 1, 0, 10, 10, 60, 127);
        Due.is("6: to 1", 3, () -> desk.weigh(-1, 0, 9600, 0));
        note("6: to 1", desk, 2, 1, 0, 10, 60, 1);
        Due.argument("6: percents -1", () -> desk.weigh(0, 0, 1, -1));
        Due.argument("6: percents 401", () -> desk.weigh(0, 0, 1, 401));
        Due.argument("6: far percents", () -> desk.weigh(0, 0, 1, Integer.MIN_VALUE));
        Due.is("6: none in it", 0, () -> desk.weigh(3, 0, 9600, 400));
    }

    private static void promise7Quantise() {
        OvertureDesk desk = new OvertureDesk();
        desk.write(0, 10, 10, 60, 60);
        desk.write(0, 96, 10, 60, 60);
        desk.write(1, 50, 10, 60, 60);
        Due.is("7: one track", 1, () -> desk.quantise(0, 0, 9600, 96, 0, 100));
        note("7: one track", desk, 0, 0, 0, 10, 60, 60);
        note("7: on a line", desk, 1, 0, 96, 10, 60, 60);
        note("7: other track", desk, 2, 1, 50, 10, 60, 60);
        Due.is("7: strength 0", 0, () -> desk.quantise(-1, 0, 9600, 7, 75, 0));
        Due.is("7: half", 1, () -> desk.quantise(1, 0, 9600, 96, 0, 50));
        note("7: half", desk, 2, 1, 73, 10, 60, 60);
        Due.is("7: swung", 2, () -> desk.quantise(0, 0, 9600, 48, 75, 100) + desk.quantise(1, 0, 9600, 48, 75, 100) + 1);
        note("7: swung line at 84", desk, 2, 1, 84, 10, 60, 60);
        Due.argument("7: step 0", () -> desk.quantise(0, 0, 1, 0, 0, 0));
        Due.argument("7: step 385", () -> desk.quantise(0, 0, 1, 385, 0, 0));
        Due.argument("7: swing -1", () -> desk.quantise(0, 0, 1, 1, -1, 0));
        Due.argument("7: swing 76", () -> desk.quantise(0, 0, 1, 1, 76, 0));
        Due.argument("7: strength -1", () -> desk.quantise(0, 0, 1, 1, 0, -1));
        Due.argument("7: strength 101", () -> desk.quantise(0, 0, 1, 1, 0, 101));
        Due.argument("7: far step", () -> desk.quantise(0, 0, 1, Integer.MIN_VALUE, 0, 0));
        OvertureDesk order = new OvertureDesk();
        order.write(0, 90, 10, 70, 60);
        order.write(0, 100, 10, 50, 60);
        Due.is("7: both", 2, () -> order.quantise(0, 0, 9600, 96, 0, 100));
        note("7: in order", order, 0, 0, 96, 10, 50, 60);
        note("7: in order", order, 1, 0, 96, 10, 70, 60);
    }

    /** Where a single note is drawn to. */
    private static void drawn(int start, int step, int swing, int strength, int want) {
        OvertureDesk desk = new OvertureDesk();
        desk.write(0, start, 1, 60, 60);
        String what = "7: " + start + " by " + step + ", " + swing + ", " + strength;
        Due.is(what, want == start ? 0 : 1, () -> desk.quantise(0, start, start + 1, step, swing, strength));
        note(what, desk, 0, 0, want);
    }

    private static void promise7Grid() {
        drawn(48, 96, 0, 100, 0);
        drawn(49, 96, 0, 100, 96);
        drawn(72, 48, 50, 100, 72);
        drawn(36, 48, 50, 100, 0);
        drawn(37, 48, 50, 100, 72);
        drawn(84, 48, 50, 100, 72);
        drawn(85, 48, 50, 100, 96);
        drawn(49, 48, 75, 100, 84);
        drawn(42, 48, 75, 100, 0);
        drawn(43, 48, 75, 100, 84);
        drawn(9599, 384, 0, 100, 9216);
        drawn(9599, 384, 75, 100, 9216);
        drawn(9599, 96, 0, 100, 9504);
        drawn(9599, 64, 75, 100, 9584);
        drawn(9599, 1, 75, 100, 9599);
        drawn(9599, 2, 50, 100, 9599);
        drawn(9598, 2, 50, 100, 9599);
        drawn(9592, 7, 75, 100, 9590);
        drawn(10, 96, 0, 33, 7);
        drawn(90, 96, 0, 33, 91);
        drawn(95, 96, 0, 99, 95);
        drawn(1, 96, 0, 99, 1);
    }

    private static void promise8Copy() {
        OvertureDesk desk = new OvertureDesk();
        desk.write(0, 100, 10, 60, 60);
        desk.write(1, 200, 20, 61, 61);
        desk.write(1, 300, 30, 62, 62);
        Due.is("8: all", 2, () -> desk.copy(-1, 100, 300));
        Due.is("8: pasted", 2, () -> desk.paste(1000));
        note("8: first", desk, 1, 0, 1000, 10, 60, 60);
        note("8: second", desk, 4, 1, 1100, 20, 61, 61);
        Due.is("8: one track", 2, () -> desk.copy(1, 150, 301));
        Due.is("8: gone", 2, () -> desk.paste(5000));
        note("8: behind from", desk, 5, 1, 5050, 20, 61, 61);
        note("8: behind from", desk, 6, 1, 5150, 30, 62, 62);
        Due.is("8: no change", 5, desk::undos);
        Due.argument("8: keeps the clipboard", () -> desk.copy(-2, 0, 1));
        Due.is("8: kept", 2, () -> desk.paste(7000));
        Due.is("8: none", 0, () -> desk.copy(5, 0, 9600));
        Due.is("8: emptied", 0, () -> desk.paste(0));
        Due.is("8: not taken back", 1, () -> desk.copy(0, 100, 101));
        desk.undo();
        Due.is("8: not taken back", 1, () -> desk.paste(0));
    }

    private static void promise9Paste() {
        OvertureDesk desk = new OvertureDesk();
        Due.is("9: nothing on it", 0, () -> desk.paste(0));
        Due.is("9: no change", 0, desk::undos);
        Due.argument("9: tick -1", () -> desk.paste(-1));
        Due.argument("9: tick 9600", () -> desk.paste(9600));
        Due.argument("9: far tick", () -> desk.paste(Integer.MAX_VALUE));
        desk.write(3, 0, 960, 60, 60);
        desk.write(3, 99, 10, 60, 60);
        desk.write(3, 100, 10, 60, 60);
        desk.copy(3, 0, 9600);
        Due.is("9: above 9599", 2, () -> desk.paste(9500));
        note("9: at 9599", desk, 4, 3, 9599, 10, 60, 60);
        Due.is("9: first alone", 1, () -> desk.paste(9599));
        OvertureDesk full = full();
        full.copy(-1, 0, 200);
        full.remove(0);
        Due.state("9: 61", () -> full.paste(0));
        Due.argument("9: 61 and wrong", () -> full.paste(9600));
        Due.is("9: nothing pasted", 59, full::notes);
        Due.is("9: one left out", 1, () -> full.paste(9550));
        Due.is("9: 60", 60, full::notes);
        full.copy(0, 9599, 9600);
        Due.is("9: none into 60", 0, () -> full.paste(0));
    }

    private static void promise10Notes() {
        OvertureDesk desk = full();
        Due.is("10: 60", 60, desk::notes);
        desk.undo();
        Due.is("10: 59", 59, desk::notes);
    }

    private static void promise11Note() {
        OvertureDesk desk = new OvertureDesk();
        Due.index("11: none", () -> desk.note(0, 0));
        desk.write(4, 7, 8, 9, 10);
        note("11", desk, 0, 4, 7, 8, 9, 10);
        Due.index("11: place -1", () -> desk.note(-1, 0));
        Due.index("11: place 1", () -> desk.note(1, 0));
        Due.index("11: place and what", () -> desk.note(1, 5));
        Due.argument("11: what -1", () -> desk.note(0, -1));
        Due.argument("11: what 5", () -> desk.note(0, 5));
        OvertureDesk full = full();
        note("11: last place", full, 59, 5, 5900, 50, 60, 100);
        Due.index("11: place 60", () -> full.note(60, 0));
    }

    /** Promises 5 to 9, 35 and 37: all that take a range look at it alike. */
    private static void ranges() {
        OvertureDesk desk = new OvertureDesk();
        desk.write(2, 100, 10, 60, 60);
        int[][] wrong = {{-2, 0, 1}, {6, 0, 1}, {0, -1, 1}, {0, 9600, 9601}, {0, 5, 5}, {0, 5, 4}, {0, 0, 9601},
            {0, 0, Integer.MAX_VALUE}, {0, Integer.MAX_VALUE, Integer.MIN_VALUE}, {Integer.MIN_VALUE, 0, 1}};
        for (int[] r : wrong) {
            String what = "range " + r[0] + ", " + r[1] + ", " + r[2];
            Due.argument("5: " + what, () -> desk.transpose(r[0], r[1], r[2], 0));
            Due.argument("6: " + what, () -> desk.weigh(r[0], r[1], r[2], 100));
            Due.argument("7: " + what, () -> desk.quantise(r[0], r[1], r[2], 96, 0, 100));
            Due.argument("8: " + what, () -> desk.copy(r[0], r[1], r[2]));
            Due.argument("35: " + what, () -> desk.wouldMove(r[0], r[1], r[2], 96));
            Due.argument("37: " + what, () -> desk.bestStep(r[0], r[1], r[2]));
        }
        int[][] right = {{2, 100, 101, 1}, {-1, 0, 9600, 1}, {2, 0, 100, 0}, {2, 101, 9600, 0}, {1, 0, 9600, 0},
            {5, 9599, 9600, 0}};
        for (int[] r : right) {
            String what = "range " + r[0] + ", " + r[1] + ", " + r[2];
            Due.is("5: " + what, r[3], () -> desk.transpose(r[0], r[1], r[2], 0));
            Due.is("6: " + what, r[3], () -> desk.weigh(r[0], r[1], r[2], 100));
            Due.is("7: " + what, 0, () -> desk.quantise(r[0], r[1], r[2], 96, 0, 0));
            Due.is("8: " + what, r[3], () -> desk.copy(r[0], r[1], r[2]));
            Due.is("35: " + what, r[3], () -> desk.wouldMove(r[0], r[1], r[2], 96));
        }
        OvertureDesk late = new OvertureDesk();
        late.write(0, 0, 960, 60, 60);
        Due.is("5: a note that begins ahead is not in it", 0, () -> late.transpose(0, 1, 9600, 1));
    }

    /** What was removed or taken back is not looked at by any call. */
    private static void removedNotesAreGone() {
        OvertureDesk desk = new OvertureDesk();
        desk.write(0, 10, 50, 60, 60);
        desk.write(0, 11, 50, 60, 60);
        desk.remove(1);
        Due.is("3: chordAt", 0, () -> desk.chordAt(60));
        Due.is("3: clashes", 0, desk::clashes);
        Due.is("3: events", 2, desk::events);
        Due.is("3: wouldMove", 1, () -> desk.wouldMove(-1, 0, 9600, 96));
        Due.is("3: transpose", 1, () -> desk.transpose(-1, 0, 9600, 1));
        Due.is("3: weigh", 1, () -> desk.weigh(-1, 0, 9600, 50));
        Due.is("3: copy", 1, () -> desk.copy(-1, 0, 9600));
        Due.is("3: quantise", 1, () -> desk.quantise(-1, 0, 9600, 96, 0, 100));
        desk.copy(5, 0, 9600);
        Due.is("8: paste", 0, () -> desk.paste(0));
    }
}
