import java.math.BigInteger;

/** The "Returns" rows of all promises: empty, full, none; of several the first, the greatest, the last. */
public final class ReturnsTest {
    public static void main(String[] args) {
        promise1NewObject();
        promise2Write();
        promise3Remove();
        promise4Split();
        promise5Transpose();
        promise6Weigh();
        promise7Grid();
        promise7Strength();
        promise7Count();
        promises8And9CopyAndPaste();
        promise9LeftOut();
        promises10And11Notes();
        promises12To15Settings();
        promises16To21Counts();
        promise22TimeOf();
        promise23TickOf();
        promises24To26Bars();
        promise27ChordAt();
        promise28Clashes();
        promises29And30Events();
        promise31Sounding();
        promise32Most();
        promise33PlayedTo();
        promise34MeanForce();
        promise35WouldMove();
        promise36EventsAlone();
        promise37BestStep();
        promise38Digest();
        promise38IsOfWhatIsTold();
        Due.end("ReturnsTest");
    }

    private static OvertureDesk desk(int... starts) {
        OvertureDesk desk = new OvertureDesk();
        for (int start : starts) {
            desk.write(0, start, 1, 60, 60);
        }
        return desk;
    }

    private static void promise1NewObject() {
        OvertureDesk desk = new OvertureDesk();
        Due.is("1: notes", 0, desk::notes);
        Due.is("1: undos", 0, desk::undos);
        Due.is("1: redos", 0, desk::redos);
        Due.is("1: chordAt", 0, () -> desk.chordAt(0));
        Due.is("1: clashes", 0, desk::clashes);
        Due.is("1: events", 0, desk::events);
        Due.is("1: sounding", 0, () -> desk.sounding(0));
        Due.is("1: most", 0, desk::most);
        Due.is("1: playedTo", 0, desk::playedTo);
        Due.is("1: meanForce", 0.0, desk::meanForce);
        Due.is("1: wouldMove", 0, () -> desk.wouldMove(-1, 0, 9600, 384));
        Due.is("1: eventsAlone", 0, () -> desk.eventsAlone(0));
        Due.is("1: bestStep", 96, () -> desk.bestStep(-1, 0, 9600));
        Due.is("1: nothing on the clipboard", 0, () -> desk.paste(0));
        Due.is("1: copy", 0, () -> desk.copy(-1, 0, 9600));
        Due.is("1: no loop", 0, () -> desk.setLoop(0, 1, 0));
        Due.state("1: no group is open", desk::closeGroup);
    }

    /** "Returns its place (of several just alike the last one)." */
    private static void promise2Write() {
        OvertureDesk desk = new OvertureDesk();
        Due.is("2: into none", 0, () -> desk.write(3, 100, 10, 60, 60));
        for (int i = 0; i < 29; i++) {
            Due.is("2: ahead of all", 0, () -> desk.write(0, 0, 1, 0, 1));
            desk.remove(0);
            int last = i + 1;
            Due.is("2: behind all", last, () -> desk.write(5, 9599, 960, 127, 127));
        }
        for (int i = 0; i < 29; i++) {
            int place = i + 1;
            Due.is("2: alike, ahead of 29 others", place, () -> desk.write(3, 100, 10, 60, 60));
        }
        Due.is("2: 59 notes", 59, desk::notes);
        Due.is("2: the 60th", 30, () -> desk.write(3, 100, 10, 60, 60));
        desk.remove(59);
        Due.is("2: the 60th at the last place", 59, () -> desk.write(5, 9599, 960, 127, 127));
        Due.state("2: the 61st", () -> desk.write(5, 9599, 960, 127, 127));
    }

    private static void promise3Remove() {
        OvertureDesk desk = Desks.full();
        for (int left = 59; left >= 0; left--) {
            int count = left;
            int track = desk.note(0, 0);
            int start = desk.note(0, 1);
            Due.is("3: the first of " + (count + 1), count, () -> desk.remove(0));
            Due.is("3: it is gone", true, () -> count == 0 || desk.note(0, 0) != track || desk.note(0, 1) != start);
        }
        Due.index("3: of none", () -> desk.remove(0));
        OvertureDesk last = Desks.full();
        for (int left = 59; left >= 0; left--) {
            int count = left;
            Due.is("3: the last of " + (count + 1), count, () -> last.remove(count));
            Due.index("3: nothing behind it", () -> last.note(count, 0));
        }
        Due.is("3: none", 0, last::notes);
    }

    private static void promise4Split() {
        OvertureDesk desk = new OvertureDesk();
        desk.write(0, 8700, 960, 60, 60);
        Due.argument("4: at the tick ahead of its end", () -> desk.split(0, 9659));
        Due.is("4: at 9599", 2, () -> desk.split(0, 9599));
        Due.is("4: the first one ends there", 899, () -> desk.note(0, 2));
        Due.is("4: the second one begins there", 9599, () -> desk.note(1, 1));
        Due.is("4: and has the rest", 61, () -> desk.note(1, 2));
        Due.argument("4: the second one begins there", () -> desk.split(1, 9599));
        OvertureDesk two = new OvertureDesk();
        two.write(3, 50, 2, 127, 127);
        Due.is("4: of two ticks", 2, () -> two.split(0, 51));
        for (int place = 0; place < 2; place++) {
            int[] facts = {3, 50 + place, 1, 127, 127};
            for (int what = 0; what < 5; what++) {
                int at = place;
                int fact = what;
                Due.is("4: note(" + at + ", " + fact + ")", facts[fact], () -> two.note(at, fact));
            }
        }
        Due.argument("4: of one tick", () -> two.split(0, 50));
        Due.argument("4: of one tick", () -> two.split(0, 51));
        Due.is("4: two", 2, two::notes);
    }

    private static void promise5Transpose() {
        OvertureDesk desk = Desks.full();
        Due.is("5: all 60", 60, () -> desk.transpose(-1, 0, 9600, 67));
        Due.is("5: ten of a track", 10, () -> desk.transpose(5, 0, 9600, -127));
        Due.is("5: of 127 to 0", 0, () -> desk.note(59, 3));
        Due.is("5: of 0 to 127", 10, () -> desk.transpose(5, 0, 9600, 127));
        Due.is("5: of 0 to 127", 127, () -> desk.note(59, 3));
        Due.is("5: none in it", 0, () -> desk.transpose(-1, 5901, 9600, 127));
        desk.transpose(5, 5900, 5901, -1);
        Due.state("5: one that could be shifted, others not", () -> desk.transpose(5, 0, 9600, 1));
        Due.is("5: none is shifted", 126, () -> desk.note(59, 3));
        Due.is("5: those outside do not count", 1, () -> desk.transpose(5, 5900, 9600, 1));
    }

    /** "multiplied by the percents, and divided by 100; what is below 1 is 1, what is above 127 is 127" */
    private static void promise6Weigh() {
        int[][] told = {{1, 0, 1}, {1, 99, 1}, {1, 100, 1}, {1, 199, 1}, {1, 200, 2}, {1, 400, 4}, {127, 0, 1},
            {127, 1, 1}, {127, 2, 2}, {127, 99, 125}, {127, 100, 127}, {127, 101, 127}, {127, 400, 127},
            {31, 400, 124}, {32, 400, 127}, {100, 127, 127}, {100, 128, 127}, {100, 126, 126}, {64, 199, 127},
            {64, 198, 126}, {3, 50, 1}, {5, 50, 2}, {3, 33, 1}, {4, 25, 1}, {4, 24, 1}, {8, 24, 1}};
        for (int[] at : told) {
            OvertureDesk desk = new OvertureDesk();
            desk.write(0, 0, 1, 60, at[0]);
            Due.is("6: one in it", 1, () -> desk.weigh(-1, 0, 9600, at[1]));
            Due.is("6: " + at[0] + " by " + at[1], at[2], () -> desk.note(0, 4));
            Due.is("6: none in it", 0, () -> desk.weigh(1, 0, 9600, at[1]));
            Due.is("6: it stays", at[2], () -> desk.note(0, 4));
        }
        OvertureDesk full = Desks.full();
        Due.is("6: all 60", 60, () -> full.weigh(-1, 0, 9600, 100));
        Due.is("6: a track", 10, () -> full.weigh(0, 0, 9600, 0));
        Due.is("6: its first", 1, () -> full.note(0, 4));
        Due.is("6: its last", 1, () -> full.note(9, 4));
        Due.is("6: the next track", 100, () -> full.note(10, 4));
    }

    /** A beginning, a step, a swing, a strength, and where the note begins then. */
    private static void drawn(int... at) {
        OvertureDesk desk = desk(at[0]);
        String what = "7: " + at[0] + " to step " + at[1] + ", swing " + at[2] + ", strength " + at[3];
        Due.is(what, at[4] == at[0] ? 0 : 1, () -> desk.quantise(0, 0, 9600, at[1], at[2], at[3]));
        Due.is(what, at[4], () -> desk.note(0, 1));
        Due.is(what + ": a change", at[4] == at[0] ? 1 : 2, desk::undos);
    }

    /** "The target of a NOTE is the nearest line, of two the earlier one, of those from 0 to 9599" */
    private static void promise7Grid() {
        int[][] nearest = {{0, 384, 0, 100, 0}, {192, 384, 0, 100, 0}, {193, 384, 0, 100, 384}, {1, 2, 0, 100, 0},
            {1, 3, 0, 100, 0}, {2, 3, 0, 100, 3}, {9599, 1, 0, 100, 9599}, {5, 1, 75, 100, 5}};
        int[][] swung = {{1, 2, 50, 100, 0}, {2, 2, 50, 100, 3}, {3, 2, 50, 100, 3}, {4, 2, 50, 100, 4},
            {100, 100, 75, 100, 175}, {87, 100, 75, 100, 0}, {88, 100, 75, 100, 175}, {187, 100, 75, 100, 175},
            {188, 100, 75, 100, 200}, {187, 100, 74, 100, 174}, {300, 100, 1, 100, 301}, {200, 100, 75, 100, 200},
            {99, 3, 33, 100, 99}, {99, 3, 34, 100, 100}, {100, 3, 66, 100, 100}, {101, 3, 67, 100, 101},
            {288, 384, 75, 100, 0}, {336, 384, 75, 100, 0}, {337, 384, 75, 100, 672}};
        int[][] lastLines = {{9599, 384, 0, 100, 9216}, {9408, 384, 0, 100, 9216}, {9599, 320, 0, 100, 9280},
            {9599, 9600 / 25, 75, 100, 9216}, {9599, 127, 75, 100, 9398}, {9599, 127, 0, 100, 9525},
            {9599, 83, 66, 100, 9599}, {9590, 83, 66, 100, 9599}, {9590, 83, 67, 100, 9462}, {9599, 83, 67, 100, 9462},
            {9599, 29, 0, 100, 9599}, {9599, 300, 0, 100, 9300}, {9599, 200, 75, 100, 9550}, {9599, 2, 0, 100, 9598}};
        for (int[][] rows : new int[][][] {nearest, swung, lastLines}) {
            for (int[] row : rows) {
                drawn(row);
            }
        }
    }

    /** "its beginning is then what it was, + (target - that) * strength / 100", cut towards 0 */
    private static void promise7Strength() {
        int[][] told = {{10, 96, 0, 0, 10}, {10, 96, 0, 9, 10}, {10, 96, 0, 10, 9}, {10, 96, 0, 19, 9},
            {10, 96, 0, 20, 8}, {10, 96, 0, 99, 1}, {10, 96, 0, 100, 0}, {86, 96, 0, 9, 86}, {86, 96, 0, 10, 87},
            {86, 96, 0, 19, 87}, {86, 96, 0, 99, 95}, {86, 96, 0, 100, 96}, {1, 96, 0, 99, 1}, {95, 96, 0, 99, 95},
            {9599, 384, 0, 1, 9596}, {9599, 384, 0, 99, 9220}};
        for (int[] row : told) {
            drawn(row);
        }
    }

    /** "Returns how many NOTES begin elsewhere then." */
    private static void promise7Count() {
        OvertureDesk desk = desk(0, 1, 2, 95, 96, 97, 9599);
        Due.is("7: none by strength 0", 0, () -> desk.quantise(-1, 0, 9600, 96, 0, 0));
        Due.is("7: two are far enough off", 2, () -> desk.quantise(-1, 0, 9600, 96, 0, 50));
        Due.is("7: none in it", 0, () -> desk.quantise(3, 0, 9600, 96, 0, 100));
        Due.is("7: those that are off", 5, () -> desk.quantise(-1, 0, 9600, 96, 0, 100));
        Due.is("7: none is off any more", 0, () -> desk.quantise(-1, 0, 9600, 96, 0, 100));
        OvertureDesk full = new OvertureDesk();
        for (int i = 0; i < 60; i++) {
            full.write(0, 1 + i, 1, 60, 60);
        }
        Due.is("7: all 60", 60, () -> full.quantise(-1, 0, 9600, 384, 0, 100));
        Due.is("7: all at one tick", 60, () -> full.copy(0, 0, 1));
    }

    private static void promises8And9CopyAndPaste() {
        OvertureDesk desk = new OvertureDesk();
        Due.is("8: of none", 0, () -> desk.copy(-1, 0, 9600));
        Due.is("9: none", 0, () -> desk.paste(0));
        for (int i = 0; i < 60; i++) {
            desk.write(i % 6, 9599 - i, 960, 127, 127);
        }
        Due.is("8: all 60", 60, () -> desk.copy(-1, 0, 9600));
        for (int i = 0; i < 60; i++) {
            desk.remove(0);
        }
        Due.is("9: none fits", 0, () -> desk.paste(9599));
        Due.is("9: none is pasted", 0, desk::notes);
        Due.is("9: all 60", 60, () -> desk.paste(0));
        Due.is("9: the first one on its own track", 0, () -> desk.note(0, 0));
        Due.is("9: as far behind as it was told", 9545, () -> desk.note(0, 1));
        Due.is("9: the last one on its own track", 5, () -> desk.note(59, 0));
        Due.is("9: as far behind as it was told", 9594, () -> desk.note(59, 1));
        Due.is("8: 60 once more", 60, () -> desk.copy(-1, 9540, 9600));
        Due.is("8: a track", 10, () -> desk.copy(5, 9540, 9600));
        Due.is("8: one", 1, () -> desk.copy(-1, 9599, 9600));
        Due.is("8: none", 0, () -> desk.copy(-1, 9539, 9540));
        Due.is("8: what was on it is gone", 0, () -> desk.paste(0));
    }

    /** "those that would begin above 9599 are left out": a note 100 ticks behind from. */
    private static void promise9LeftOut() {
        int[][] told = {{9499, 2}, {9500, 1}, {9599, 1}, {0, 2}};
        for (int[] at : told) {
            OvertureDesk desk = new OvertureDesk();
            desk.write(4, 50, 960, 60, 60);
            desk.write(2, 150, 960, 61, 61);
            desk.copy(-1, 50, 151);
            Due.is("9: at " + at[0], at[1], () -> desk.paste(at[0]));
            Due.is("9: at " + at[0], 2 + at[1], desk::notes);
        }
        OvertureDesk late = new OvertureDesk();
        late.write(4, 150, 960, 60, 60);
        late.copy(-1, 50, 9600);
        Due.is("9: none is left", 0, () -> late.paste(9500));
        Due.is("9: that is no change", 1, late::undos);
        Due.is("9: at 9599", 1, () -> late.paste(9499));
        Due.is("9: at 9599", 9599, () -> late.note(1, 1));
        Due.is("9: its length stays", 960, () -> late.note(1, 2));
        OvertureDesk first = new OvertureDesk();
        first.write(0, 9599, 1, 60, 60);
        first.copy(0, 0, 9600);
        Due.is("9: 9599 behind 0", 1, () -> first.paste(0));
        Due.is("9: 9599 behind 1", 0, () -> first.paste(1));
    }

    private static void promises10And11Notes() {
        OvertureDesk desk = new OvertureDesk();
        for (int i = 0; i < 60; i++) {
            int count = i;
            Due.is("10: " + count, count, desk::notes);
            desk.write(i % 6, 160 * i, 16 * (i + 1), 2 * i, 2 * i + 1);
        }
        Due.is("10: 60", 60, desk::notes);
        for (int place = 0; place < 60; place++) {
            int at = place;
            int number = place / 10 + 6 * (place % 10);
            int[] facts = {number % 6, 160 * number, 16 * (number + 1), 2 * number, 2 * number + 1};
            for (int what = 0; what < 5; what++) {
                int fact = what;
                Due.is("11: note(" + at + ", " + fact + ")", facts[fact], () -> desk.note(at, fact));
            }
        }
    }

    private static void promises12To15Settings() {
        OvertureDesk desk = new OvertureDesk();
        for (int shift = -24; shift <= 24; shift++) {
            int now = shift;
            int before = shift == -24 ? 0 : shift - 1;
            Due.is("12: its shift before", before, () -> desk.setTrack(5, now % 2 == 0, now % 3 == 0, now, -now));
        }
        Due.is("12: another track", 0, () -> desk.setTrack(4, false, false, 1, 0));
        Due.is("13: one speed", 1, () -> desk.setSpeed(0, 3000));
        Due.is("14: one meter", 1, () -> desk.setMeter(0, 16, 16));
        for (int i = 1; i <= 10; i++) {
            int count = i + 1;
            Due.is("13: speeds", count, () -> desk.setSpeed(count, 3000));
            Due.is("14: meters", count, () -> desk.setMeter(count, 16, 16));
        }
        for (int i = 10; i >= 1; i--) {
            int count = i;
            Due.is("13: speeds, one less", count, () -> desk.setSpeed(12 - count, 0));
            Due.is("14: meters, one less", count, () -> desk.setMeter(12 - count, 0, 0));
        }
        Due.is("15: none before", 0, () -> desk.setLoop(0, 9600, 0));
        for (int times = 1; times <= 8; times++) {
            int often = times;
            Due.is("15: before", often - 1, () -> desk.setLoop(0, 9600, often));
        }
        Due.is("15: 8 before", 8, () -> desk.setLoop(1, 2, 0));
        Due.is("15: none before", 0, () -> desk.setLoop(1, 2, 8));
        desk.undo();
        Due.is("15: none behind a taking back", 0, () -> desk.setLoop(1, 2, 1));
    }

    private static void promises16To21Counts() {
        OvertureDesk desk = new OvertureDesk();
        for (int i = 0; i <= 22; i++) {
            int count = Math.min(20, i);
            Due.is("16: openGroup", count, desk::openGroup);
            Due.is("17: an empty one", false, desk::closeGroup);
            Due.is("20: undos", count, desk::undos);
            Due.is("21: redos", 0, desk::redos);
            desk.openGroup();
            desk.write(0, i, 1, 60, 60);
            Due.is("17: a change", true, desk::closeGroup);
        }
        for (int i = 19; i >= 0; i--) {
            int left = i;
            Due.is("18: undo", left, desk::undo);
            Due.is("20: undos", left, desk::undos);
            Due.is("21: redos", 20 - left, desk::redos);
            Due.is("16: openGroup", left, desk::openGroup);
            desk.closeGroup();
        }
        for (int i = 19; i >= 0; i--) {
            int left = i;
            Due.is("19: redo", left, desk::redo);
            Due.is("20: undos", 20 - left, desk::undos);
            Due.is("21: redos", left, desk::redos);
        }
    }

    private static void promise22TimeOf() {
        OvertureDesk desk = new OvertureDesk();
        for (int tick : new int[] {0, 1, 2, 95, 96, 97, 9599, 9600, 99998, 99999}) {
            Due.is("22: " + tick, (int) (tick * 62500L / 1200), () -> desk.timeOf(tick));
        }
        desk.setSpeed(9599, 200);
        Due.is("22: ahead of it", 9598 * 625 / 12, () -> desk.timeOf(9598));
        Due.is("22: where it begins", 9599 * 625 / 12, () -> desk.timeOf(9599));
        Due.is("22: one tick of it", 9599 * 625 / 12 + 312, () -> desk.timeOf(9600));
        Due.is("22: the last tick", 9599 * 625 / 12 + 90400 / 2 * 625, () -> desk.timeOf(99999));
    }

    /** "Returns the greatest TICK, 99999 at most, whose TIME is not above it." */
    private static void promise23TickOf() {
        for (int speed : new int[] {200, 1200, 1201, 3000}) {
            OvertureDesk desk = new OvertureDesk();
            desk.setSpeed(0, speed);
            desk.setSpeed(1, 3000);
            desk.setSpeed(2, 3000);
            desk.setSpeed(9599, speed);
            for (int tick : new int[] {0, 1, 2, 3, 4, 97, 9598, 9599, 9600, 65535, 65536, 99998}) {
                int time = desk.timeOf(tick);
                int next = desk.timeOf(tick + 1);
                Due.is("23: the time of " + tick, tick, () -> desk.tickOf(time));
                Due.is("23: a moment ahead of the next one", tick, () -> desk.tickOf(next - 1));
                Due.is("23: the next one", tick + 1, () -> desk.tickOf(next));
            }
            int last = desk.timeOf(99999);
            Due.is("23: the last one", 99999, () -> desk.tickOf(last));
            Due.is("23: behind it", 99999, () -> desk.tickOf(last + 1));
            Due.is("23: far behind it", 99999, () -> desk.tickOf(Integer.MAX_VALUE));
            Due.is("23: 0", 0, () -> desk.tickOf(0));
        }
    }

    private static void promises24To26Bars() {
        OvertureDesk desk = new OvertureDesk();
        desk.setMeter(0, 1, 16);
        desk.setMeter(1, 16, 2);
        desk.setMeter(2, 1, 2);
        desk.setMeter(99, 7, 8);
        int[] bars = {0, 1, 2, 3, 98, 99, 100, 999};
        int[] starts = {0, 24, 3096, 3288, 21528, 21720, 22056, 324120};
        int[] beats = {0, 15, 0, 0, 0, 6, 6, 6};
        for (int i = 0; i < bars.length; i++) {
            int bar = bars[i];
            int start = starts[i];
            int last = beats[i];
            Due.is("26: " + bar, start, () -> desk.tickOfBar(bar));
            if (start <= 99999) {
                int end = desk.tickOfBar(bar + 1) - 1;
                Due.is("24: its first tick", bar, () -> desk.barOf(start));
                Due.is("25: its first beat", 0, () -> desk.beatOf(start));
                Due.is("24: its last tick", bar, () -> desk.barOf(end));
                Due.is("25: its last beat", last, () -> desk.beatOf(end));
            }
        }
        Due.is("24: the last tick", 99 + 78279 / 336, () -> desk.barOf(99999));
        Due.is("25: the last tick", 78279 % 336 / 48, () -> desk.beatOf(99999));
        OvertureDesk shortest = new OvertureDesk();
        shortest.setMeter(0, 1, 16);
        Due.is("24: the most bars", 99999 / 24, () -> shortest.barOf(99999));
        Due.is("26: short bars", 999 * 24, () -> shortest.tickOfBar(999));
        OvertureDesk longest = new OvertureDesk();
        longest.setMeter(0, 16, 2);
        Due.is("24: the fewest bars", 99999 / 3072, () -> longest.barOf(99999));
        Due.is("26: long bars", 999 * 3072, () -> longest.tickOfBar(999));
    }

    /** "the sum of 1 << k for each k for which a NOTE on any TRACK with a PITCH p, p % 12 being k, lies at it" */
    private static void promise27ChordAt() {
        for (int pitch = 0; pitch <= 127; pitch++) {
            OvertureDesk desk = new OvertureDesk();
            int tone = pitch;
            desk.write(pitch % 6, 9599, 1, pitch, 1);
            Due.is("27: pitch " + pitch, 1 << tone % 12, () -> desk.chordAt(9599));
            Due.is("27: ahead of it", 0, () -> desk.chordAt(9598));
        }
        OvertureDesk all = new OvertureDesk();
        int chord = 0;
        for (int i = 0; i < 60; i++) {
            all.write(i % 6, 0, 960, 127 - i, 1);
            chord |= 1 << (127 - i) % 12;
            int sum = chord;
            Due.is("27: each tone once", sum, () -> all.chordAt(0));
        }
        Due.is("27: all tones", 4095, () -> all.chordAt(959));
        Due.is("27: none", 0, () -> all.chordAt(960));
    }

    private static void promise28Clashes() {
        OvertureDesk full = new OvertureDesk();
        for (int i = 0; i < 60; i++) {
            int pairs = i * (i - 1) / 2;
            Due.is("28: of " + i, pairs, full::clashes);
            full.write(5, 9599, 960, 127, 127);
        }
        Due.is("28: of 60", 1770, full::clashes);
        full.setTrack(5, true, false, 24, 0);
        Due.is("28: what is written, not what is played", 1770, full::clashes);
        OvertureDesk none = new OvertureDesk();
        for (int i = 0; i < 60; i++) {
            none.write(i % 6, 960 * (i / 12), 960, 60 + i / 6 % 2, 60);
        }
        Due.is("28: none of 60", 0, none::clashes);
        none.remove(0);
        none.write(0, 959, 2, 60, 60);
        Due.is("28: at the first tick of another", 1, none::clashes);
    }

    private static void promises29And30Events() {
        OvertureDesk desk = new OvertureDesk();
        desk.write(5, 100, 1, 127, 127);
        Due.is("29: two", 2, desk::events);
        int[][] told = {{100, 5, 127, 127}, {101, 5, 127, 0}};
        for (int event = 0; event < 2; event++) {
            for (int what = 0; what < 4; what++) {
                int at = event;
                int fact = what;
                Due.is("30: event(" + at + ", " + fact + ")", told[at][fact], () -> desk.event(at, fact));
            }
        }
        OvertureDesk full = new OvertureDesk();
        for (int i = 0; i < 60; i++) {
            full.write(i % 6, 100 + i, 960, 60, 60);
        }
        Due.is("29: 60 notes", 120, full::events);
        full.setLoop(100, 160, 8);
        Due.is("29: 60 notes, 8 times", 960, full::events);
        for (int time = 0; time < 8; time++) {
            int start = 100 + 60 * time;
            Due.is("30: the first tick of time " + time, 60, () -> full.sounding(start + 59));
        }
        Due.is("30: the first one", 100, () -> full.event(0, 0));
        Due.is("30: the last one", 580, () -> full.event(959, 0));
        Due.is("30: the last one", 5, () -> full.event(959, 1));
        Due.is("30: the last one", 0, () -> full.event(959, 3));
        Due.index("30: no more", () -> full.event(960, 0));
        Due.is("30: the last on", 579, () -> full.event(899, 0));
        Due.is("30: the last on", 60, () -> full.event(899, 3));
        Due.is("30: the first off of the last time", 0, () -> full.event(900, 3));
    }

    private static void promise31Sounding() {
        OvertureDesk desk = new OvertureDesk();
        for (int i = 0; i < 60; i++) {
            desk.write(i % 6, 9000, 960, i, 60);
        }
        int[][] told = {{0, 0}, {8999, 0}, {9000, 60}, {9959, 60}, {9960, 0}, {99999, 0}};
        for (int[] at : told) {
            Due.is("31: " + at[0], at[1], () -> desk.sounding(at[0]));
        }
        desk.setTrack(0, false, false, -1, 48);
        int[][] delayed = {{9000, 50}, {9047, 50}, {9048, 59}, {9959, 59}, {9960, 9}, {10007, 9}, {10008, 0}};
        for (int[] at : delayed) {
            Due.is("31: delayed, " + at[0], at[1], () -> desk.sounding(at[0]));
        }
    }

    private static void promise32Most() {
        OvertureDesk first = desk(0, 0, 5, 9);
        Due.is("32: at the first tick", 2, first::most);
        OvertureDesk last = desk(0, 5, 9599, 9599, 9599);
        Due.is("32: at the last tick", 3, last::most);
        OvertureDesk full = new OvertureDesk();
        for (int i = 0; i < 60; i++) {
            full.write(i % 6, 100 + i, 60, 60, 60);
        }
        Due.is("32: all 60 at one tick", 60, full::most);
        Due.is("32: it is that one", 60, () -> full.sounding(159));
        Due.is("32: not the one behind it", 59, () -> full.sounding(160));
        full.setTrack(0, false, false, 0, 48);
        Due.is("32: with a delay", 53, full::most);
        OvertureDesk row = new OvertureDesk();
        for (int i = 0; i < 60; i++) {
            row.write(i % 6, 10 * i, 10, 60, 60);
        }
        Due.is("32: each at the end of another", 1, row::most);
        row.setLoop(0, 600, 8);
        Due.is("32: in a loop", 1, row::most);
        row.setTrack(3, true, false, 0, 0);
        Due.is("32: still one", 1, row::most);
    }

    private static void promise33PlayedTo() {
        OvertureDesk desk = new OvertureDesk();
        desk.write(0, 0, 1, 60, 60);
        Due.is("33: the least", 1, desk::playedTo);
        desk.write(0, 5, 960, 60, 60);
        desk.write(0, 900, 10, 60, 60);
        Due.is("33: not of the last beginning", 965, desk::playedTo);
        desk.setTrack(0, false, false, 0, -48);
        Due.is("33: from 0 on", 960, desk::playedTo);
        desk.setTrack(0, false, false, 24, 0);
        desk.write(1, 9599, 1, 60, 60);
        Due.is("33: of any track", 9600, desk::playedTo);
        desk.setTrack(1, true, false, 0, 0);
        Due.is("33: that is heard", 965, desk::playedTo);
    }

    private static void promise34MeanForce() {
        OvertureDesk desk = new OvertureDesk();
        desk.write(0, 0, 1, 60, 1);
        Due.is("34: the least", 1.0, desk::meanForce);
        desk.write(0, 1, 1, 60, 1);
        desk.write(0, 2, 1, 60, 2);
        Due.is("34: not cut", 4 / 3.0, desk::meanForce);
        desk.setLoop(2, 3, 8);
        Due.is("34: as often as it is played", 18 / 10.0, desk::meanForce);
        desk.setLoop(0, 1, 8);
        Due.is("34: as often as it is played", 11 / 10.0, desk::meanForce);
        OvertureDesk full = new OvertureDesk();
        for (int i = 0; i < 60; i++) {
            full.write(i % 6, i, 960, 60, i < 59 ? 127 : 126);
        }
        Due.is("34: of 60", (60 * 127 - 1) / 60.0, full::meanForce);
        full.setLoop(0, 9600, 8);
        Due.is("34: of 480", 8 * (60 * 127 - 1) / 480.0, full::meanForce);
    }

    /** "Tells what quantise() would, with the strength 100 and without swing." */
    private static void promise35WouldMove() {
        for (int step : new int[] {1, 2, 95, 96, 97, 383, 384}) {
            OvertureDesk desk = desk(0, 1, 95, 96, 97, 383, 384, 768, 9215, 9216, 9500, 9599);
            int[] starts = {0, 1, 95, 96, 97, 383, 384, 768, 9215, 9216, 9500, 9599};
            int off = 0;
            for (int start : starts) {
                off += start % step == 0 ? 0 : 1;
            }
            int want = off;
            Due.is("35: step " + step, want, () -> desk.wouldMove(-1, 0, 9600, step));
            Due.is("35: nothing is moved", 12, desk::undos);
            Due.is("35: as quantise", want, () -> desk.quantise(-1, 0, 9600, step, 0, 100));
            Due.is("35: none any more", 0, () -> desk.wouldMove(-1, 0, 9600, step));
        }
    }

    private static void promise36EventsAlone() {
        OvertureDesk desk = new OvertureDesk();
        for (int i = 0; i < 60; i++) {
            desk.write(5, i, 960, 124, 60);
        }
        desk.setTrack(5, true, false, 3, 0);
        desk.setTrack(0, true, true, 0, 0);
        Due.is("36: 60 notes", 120, () -> desk.eventsAlone(5));
        Due.is("36: none", 0, () -> desk.eventsAlone(0));
        desk.setLoop(0, 60, 8);
        Due.is("36: 60 notes, 8 times", 960, () -> desk.eventsAlone(5));
        Due.is("36: it is not heard", 0, desk::events);
        desk.setTrack(5, false, true, 4, 0);
        Due.is("36: shifted to 128", 0, () -> desk.eventsAlone(5));
        Due.is("36: it stays as it was set", 4, () -> desk.setTrack(5, false, true, 4, 0));
    }

    /** "Returns the step ... with which wouldMove() is least; of several the greatest." */
    private static void promise37BestStep() {
        int[][] told = {{96}, {96, 0}, {96, 9504}, {48, 48}, {32, 32}, {24, 24}, {16, 16}, {12, 12}, {8, 8}, {6, 6},
            {96, 1}, {96, 9599}, {48, 48, 1}, {16, 48, 32}, {8, 8, 6}, {8, 6, 8, 1}, {24, 24, 72, 1}, {16, 16, 80, 1},
            {6, 18, 30, 16}, {96, 5, 7, 11}, {32, 32, 64, 1}, {48, 48, 144, 1}, {96, 96, 1, 7}, {12, 36, 32, 60}};
        for (int[] row : told) {
            OvertureDesk desk = desk(java.util.Arrays.copyOfRange(row, 1, row.length));
            Due.is("37: " + java.util.Arrays.toString(row), row[0], () -> desk.bestStep(-1, 0, 9600));
        }
        OvertureDesk off = new OvertureDesk();
        for (int i = 0; i < 60; i++) {
            off.write(i % 6, 1 + 96 * i, 1, 60, 60);
            int count = i + 1;
            Due.is("37: all are off", count, () -> off.wouldMove(-1, 0, 9600, 6));
            Due.is("37: all " + count + " are off by each step", 96, () -> off.bestStep(-1, 0, 9600));
        }
        OvertureDesk ranged = desk(48, 100, 108);
        Due.is("37: those in the range", 48, () -> ranged.bestStep(0, 48, 49));
        Due.is("37: those in the range", 12, () -> ranged.bestStep(0, 101, 9600));
        Due.is("37: none in the range", 96, () -> ranged.bestStep(0, 49, 100));
        Due.is("37: none on the track", 96, () -> ranged.bestStep(5, 0, 9600));
    }

    /** "d becomes d * 31 + v, which wraps around as a 64-bit integer" */
    private static void promise38Digest() {
        Due.is("38: of a new desk", -7898079466600982096L, () -> new OvertureDesk().digest());
        int[] values = {0, 0, 0, 499947, 19200, 24, 2, 2688, 0, 0, 0, 0, 0, 0, 0, 0, 0, 0, 96};
        Due.is("38: its values", wrapped(values), () -> new OvertureDesk().digest());
        OvertureDesk one = new OvertureDesk();
        one.write(5, 9599, 960, 127, 127);
        int[] ones = {1, 5, 9599, 960, 127, 127, 1, 0, 499947, 19200, 24, 2, 2688, 0, 2, 9599, 5, 127, 127, 10559, 5,
            127, 0, 1, 10559, 0, 0, 0, 0, 0, 2, 96};
        Due.is("38: of one note", wrapped(ones), one::digest);
        one.undo();
        int[] none = values.clone();
        none[2] = 1;
        Due.is("38: with one to do again", wrapped(none), one::digest);
        one.redo();
        one.setSpeed(0, 200);
        one.setMeter(0, 1, 16);
        int[] slow = {1, 5, 9599, 960, 127, 127, 3, 0, 2999687, 3200, 399, 0, 168, 0, 2, 9599, 5, 127, 127, 10559, 5,
            127, 0, 1, 10559, 0, 0, 0, 0, 0, 2, 96};
        Due.is("38: slow, in short bars", wrapped(slow), one::digest);
        OvertureDesk edge = new OvertureDesk();
        edge.setSpeed(1, 1226);
        Due.is("38: a tick at the time 1000001", 1000001, () -> edge.timeOf(19616));
        int[] ahead = {0, 1, 0, 489346, 19615, 24, 2, 2688, 0, 0, 0, 0, 0, 0, 0, 0, 0, 0, 96};
        Due.is("38: it is not reached at 1000000", wrapped(ahead), edge::digest);
    }

    private static long wrapped(int... values) {
        BigInteger sum = BigInteger.valueOf(2671);
        for (int value : values) {
            sum = sum.multiply(BigInteger.valueOf(31)).add(BigInteger.valueOf(value));
        }
        return sum.longValue();
    }

    /** The sum of a desk with something of each kind, from what the other calls tell. */
    private static void promise38IsOfWhatIsTold() {
        OvertureDesk desk = new OvertureDesk();
        for (int i = 0; i < 12; i++) {
            desk.write(i % 6, 40 * i + i % 4, 100, 60 + i, 100 - i);
        }
        desk.setLoop(100, 300, 2);
        desk.setTrack(2, true, false, 0, 0);
        desk.setTrack(3, false, false, -5, -48);
        desk.setSpeed(3000, 3000);
        desk.setMeter(3, 5, 16);
        desk.undo();
        int[] told = new int[400];
        int count = 0;
        told[count++] = desk.notes();
        for (int place = 0; place < 12; place++) {
            for (int what = 0; what < 5; what++) {
                told[count++] = desk.note(place, what);
            }
        }
        int[] maps = {desk.undos(), desk.redos(), desk.timeOf(9599), desk.tickOf(1000000), desk.barOf(9599),
            desk.beatOf(1000), desk.tickOfBar(7), desk.clashes(), desk.events()};
        System.arraycopy(maps, 0, told, count, maps.length);
        count += maps.length;
        int events = desk.events();
        for (int event = 0; event < events; event++) {
            for (int what = 0; what < 4; what++) {
                told[count++] = desk.event(event, what);
            }
        }
        told[count++] = desk.most();
        told[count++] = desk.playedTo();
        for (int track = 0; track < 6; track++) {
            told[count++] = desk.eventsAlone(track);
        }
        told[count++] = desk.bestStep(-1, 0, 9600);
        int[] values = java.util.Arrays.copyOf(told, count);
        Due.is("38: of all that is told", wrapped(values), desk::digest);
        Due.is("38: once more", wrapped(values), desk::digest);
    }
}
