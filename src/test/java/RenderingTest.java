/** Section 4: the loop, which tracks are heard, shifts and delays, the order of the events; each boundary of them. */
public final class RenderingTest {
    public static void main(String[] args) {
        withoutALoop();
        oneToEightTimes();
        aheadInAndBehind();
        aheadIsPlayedAsItIs();
        lengthsCutAtTheEnd();
        cutEachTime();
        theShortestLoop();
        theLongestLoop();
        loopsAtBothEnds();
        anotherLoopInItsPlace();
        silentAndAlone();
        aloneWithoutNotes();
        pitchesOutside();
        pitchesOutsideAreNotPlayedAtAll();
        delaysBelow0();
        delaysInALoop();
        delaysAbove9599();
        orderOfEvents();
        offsFirst();
        orderAtTheTickOfADelay();
        Due.end("RenderingTest");
    }

    /** All events: the tick, the track, the pitch and the force of each, 0 of an off. */
    private static void plays(String what, OvertureDesk desk, int[]... want) {
        Due.is(what + ": events", want.length, desk::events);
        for (int i = 0; i < want.length; i++) {
            int event = i;
            for (int j = 0; j < 4; j++) {
                int fact = j;
                Due.is(what + ": event(" + event + ", " + fact + ")", want[i][j], () -> desk.event(event, fact));
            }
        }
        Due.index(what + ": no more", () -> desk.event(want.length, 0));
    }

    private static int[] on(int tick, int track, int pitch, int force) {
        return new int[] {tick, track, pitch, force};
    }

    private static int[] off(int tick, int track, int pitch) {
        return new int[] {tick, track, pitch, 0};
    }

    /** A desk with notes of the track 0, each a beginning, a length and a pitch; the force is the pitch too. */
    private static OvertureDesk desk(int[]... notes) {
        OvertureDesk desk = new OvertureDesk();
        for (int[] note : notes) {
            desk.write(0, note[0], note[1], note[2], note[2]);
        }
        return desk;
    }

    private static void withoutALoop() {
        plays("none", new OvertureDesk());
        OvertureDesk desk = desk(new int[] {0, 1, 60}, new int[] {9599, 960, 61});
        plays("without a loop", desk, on(0, 0, 60, 60), off(1, 0, 60), on(9599, 0, 61, 61), off(10559, 0, 61));
        desk.setLoop(0, 9600, 0);
        plays("0 times", desk, on(0, 0, 60, 60), off(1, 0, 60), on(9599, 0, 61, 61), off(10559, 0, 61));
    }

    /** "how often one goes through it, 1 to 8" */
    private static void oneToEightTimes() {
        OvertureDesk desk = desk(new int[] {50, 200, 50}, new int[] {100, 30, 60}, new int[] {200, 40, 70});
        for (int times = 1; times <= 8; times++) {
            int often = times;
            String what = often + " times";
            Due.is(what, often - 1, () -> desk.setLoop(100, 200, often));
            Due.is(what + ": events", 4 + 2 * often, desk::events);
            Due.is(what + ": ahead once", 2, () -> desk.sounding(110));
            Due.is(what + ": behind later", often == 1 ? 250 : 140 + 100 * often, desk::playedTo);
            Due.is(what + ": the mean", (50.0 + 60 * often + 70) / (2 + often), desk::meanForce);
            for (int i = 0; i < often; i++) {
                int start = 100 + 100 * i;
                int others = i == 0 || i == 1 ? 1 : 0;
                Due.is(what + ": begins " + i, 1 + others, () -> desk.sounding(start));
                Due.is(what + ": lies " + i, 1 + others, () -> desk.sounding(start + 29));
                Due.is(what + ": ends " + i, others, () -> desk.sounding(start + 30));
            }
            Due.is(what + ": not once more", 2 + often, () -> desk.events() / 2);
        }
        Due.is("none any more", 8, () -> desk.setLoop(100, 200, 0));
        plays("none any more", desk, on(50, 0, 50, 50), on(100, 0, 60, 60), off(130, 0, 60), on(200, 0, 70, 70),
                off(240, 0, 70), off(250, 0, 50));
    }

    /** One tick ahead of the loop, its first and its last tick, and the first one behind it. */
    private static void aheadInAndBehind() {
        OvertureDesk desk = desk(new int[] {99, 1, 1}, new int[] {100, 1, 2}, new int[] {199, 1, 3},
                new int[] {200, 1, 4});
        desk.setLoop(100, 200, 3);
        plays("edges", desk, on(99, 0, 1, 1), off(100, 0, 1), on(100, 0, 2, 2), off(101, 0, 2), on(199, 0, 3, 3),
                off(200, 0, 3), on(200, 0, 2, 2), off(201, 0, 2), on(299, 0, 3, 3), off(300, 0, 3), on(300, 0, 2, 2),
                off(301, 0, 2), on(399, 0, 3, 3), off(400, 0, 3), on(400, 0, 4, 4), off(401, 0, 4));
        desk.setLoop(100, 200, 1);
        plays("edges, once", desk, on(99, 0, 1, 1), off(100, 0, 1), on(100, 0, 2, 2), off(101, 0, 2),
                on(199, 0, 3, 3), off(200, 0, 3), on(200, 0, 4, 4), off(201, 0, 4));
    }

    /** "a NOTE that begins ahead of the LOOP is played once, as it is", also if it reaches into it or behind it. */
    private static void aheadIsPlayedAsItIs() {
        OvertureDesk desk = desk(new int[] {99, 50, 1}, new int[] {98, 960, 2});
        desk.setLoop(100, 200, 8);
        plays("ahead", desk, on(98, 0, 2, 2), on(99, 0, 1, 1), off(149, 0, 1), off(1058, 0, 2));
    }

    /** "with the LENGTH cut so that its END is not behind the TICK ahead of which the LOOP ends" */
    private static void lengthsCutAtTheEnd() {
        int[][] told = {{150, 49, 199}, {150, 50, 200}, {150, 51, 200}, {150, 960, 200}, {199, 1, 200}, {199, 2, 200},
            {199, 960, 200}, {100, 99, 199}, {100, 100, 200}, {100, 101, 200}, {198, 1, 199}};
        for (int[] note : told) {
            for (int times = 1; times <= 8; times += 7) {
                OvertureDesk desk = desk(new int[] {note[0], note[1], 60});
                desk.setLoop(100, 200, times);
                int later = (times - 1) * 100;
                String what = note[0] + " for " + note[1] + ", " + times + " times";
                Due.is(what, note[2], () -> desk.event(1, 0));
                Due.is(what + ": the last one", note[2] + later, desk::playedTo);
                Due.is(what + ": its length stays", note[1], () -> desk.note(0, 2));
            }
        }
        OvertureDesk behind = desk(new int[] {200, 960, 60});
        behind.setLoop(100, 200, 2);
        plays("one behind is not cut", behind, on(300, 0, 60, 60), off(1260, 0, 60));
    }

    private static void cutEachTime() {
        OvertureDesk desk = desk(new int[] {100, 960, 60}, new int[] {190, 20, 61});
        desk.setLoop(100, 200, 3);
        plays("cut each time", desk, on(100, 0, 60, 60), on(190, 0, 61, 61), off(200, 0, 60), off(200, 0, 61),
                on(200, 0, 60, 60), on(290, 0, 61, 61), off(300, 0, 60), off(300, 0, 61), on(300, 0, 60, 60),
                on(390, 0, 61, 61), off(400, 0, 60), off(400, 0, 61));
        Due.is("no two times at one tick", 2, desk::most);
        Due.is("the first one goes on all the time", 1, () -> desk.sounding(200));
    }

    private static void theShortestLoop() {
        OvertureDesk desk = desk(new int[] {5, 960, 60}, new int[] {6, 3, 61}, new int[] {4, 1, 59});
        desk.setLoop(5, 6, 3);
        plays("one tick", desk, on(4, 0, 59, 59), off(5, 0, 59), on(5, 0, 60, 60), off(6, 0, 60), on(6, 0, 60, 60),
                off(7, 0, 60), on(7, 0, 60, 60), off(8, 0, 60), on(8, 0, 61, 61), off(11, 0, 61));
    }

    private static void theLongestLoop() {
        OvertureDesk desk = desk(new int[] {0, 960, 60}, new int[] {9599, 960, 61});
        desk.setLoop(0, 9600, 2);
        plays("all ticks", desk, on(0, 0, 60, 60), off(960, 0, 60), on(9599, 0, 61, 61), off(9600, 0, 61),
                on(9600, 0, 60, 60), off(10560, 0, 60), on(19199, 0, 61, 61), off(19200, 0, 61));
        desk.setLoop(0, 9600, 8);
        Due.is("8 times", 32, desk::events);
        Due.is("8 times", 76800, desk::playedTo);
        Due.is("8 times", 76799, () -> desk.event(30, 0));
        Due.is("8 times", 1, () -> desk.sounding(76799));
        Due.is("8 times", 0, () -> desk.sounding(76800));
        desk.setLoop(0, 9599, 8);
        Due.is("the latest beginning", 8 * 9599, () -> desk.event(16, 0));
        Due.is("the latest end", 8 * 9599 + 960, desk::playedTo);
    }

    private static void loopsAtBothEnds() {
        OvertureDesk desk = desk(new int[] {0, 10, 60}, new int[] {9599, 10, 61});
        desk.setLoop(9599, 9600, 2);
        plays("the last tick", desk, on(0, 0, 60, 60), off(10, 0, 60), on(9599, 0, 61, 61), off(9600, 0, 61),
                on(9600, 0, 61, 61), off(9601, 0, 61));
        desk.setLoop(0, 1, 2);
        plays("the first tick", desk, on(0, 0, 60, 60), off(1, 0, 60), on(1, 0, 60, 60), off(2, 0, 60),
                on(9600, 0, 61, 61), off(9610, 0, 61));
    }

    private static void anotherLoopInItsPlace() {
        OvertureDesk desk = desk(new int[] {10, 10, 60});
        desk.setLoop(0, 20, 8);
        Due.is("8 times", 16, desk::events);
        Due.is("another one", 8, () -> desk.setLoop(30, 40, 2));
        plays("it alone holds", desk, on(10, 0, 60, 60), off(20, 0, 60));
        Due.is("around it", 2, () -> desk.setLoop(10, 11, 1));
        plays("it alone holds", desk, on(10, 0, 60, 60), off(11, 0, 60));
    }

    /** "A TRACK is HEARD, if it is not SILENT, and, if any TRACK is ALONE, it is ALONE." */
    private static void silentAndAlone() {
        String[] heard = {"012", "12", "0", "", "02", "2", "0", "", "1", "1", "01", "1", "", "", "0", ""};
        for (int i = 0; i < 16; i++) {
            OvertureDesk desk = new OvertureDesk();
            for (int track = 0; track < 3; track++) {
                desk.write(track, 10, 10, 60, 60);
            }
            desk.setTrack(0, (i & 1) != 0, (i & 2) != 0, 0, 0);
            desk.setTrack(1, (i & 4) != 0, (i & 8) != 0, 0, 0);
            StringBuilder tracks = new StringBuilder();
            for (int event = 0; event < desk.events() / 2; event++) {
                tracks.append(desk.event(event, 1));
            }
            String what = "track 0 " + ((i & 1) != 0 ? "silent " : "") + ((i & 2) != 0 ? "alone " : "") + "track 1 "
                    + ((i & 4) != 0 ? "silent " : "") + ((i & 8) != 0 ? "alone" : "");
            Due.is(what, heard[i], () -> tracks);
            Due.is(what + ": sounding", heard[i].length(), () -> desk.sounding(10));
            Due.is(what + ": most", heard[i].length(), desk::most);
            Due.is(what + ": the mean", heard[i].isEmpty() ? 0.0 : 60.0, desk::meanForce);
            Due.is(what + ": the last one", heard[i].isEmpty() ? 0 : 20, desk::playedTo);
            for (int track = 0; track < 3; track++) {
                int alone = track;
                Due.is(what + ": alone", 2, () -> desk.eventsAlone(alone));
            }
            Due.is(what + ": what is written", 1, () -> desk.chordAt(10));
        }
    }

    private static void aloneWithoutNotes() {
        OvertureDesk desk = desk(new int[] {10, 10, 60});
        desk.setTrack(5, false, true, 0, 0);
        plays("another one is alone", desk);
        desk.setTrack(5, true, true, 0, 0);
        plays("another one is silent and alone", desk);
        desk.setTrack(0, false, true, 0, 0);
        plays("both are alone", desk, on(10, 0, 60, 60), off(20, 0, 60));
        for (int track = 0; track <= 5; track++) {
            desk.setTrack(track, true, true, 0, 0);
        }
        plays("all are silent and alone", desk);
    }

    /** "with its PITCH + SHIFT, if that is 0 to 127 (not at all otherwise)" */
    private static void pitchesOutside() {
        for (int shift = -24; shift <= 24; shift++) {
            int by = shift;
            for (int pitch : new int[] {0, 1, 23, 24, 25, 102, 103, 104, 126, 127}) {
                OvertureDesk desk = new OvertureDesk();
                desk.write(4, 10, 10, pitch, 60);
                desk.setTrack(4, false, false, by, 0);
                boolean isPlayed = pitch + by >= 0 && pitch + by <= 127;
                String what = "pitch " + pitch + ", shift " + by;
                Due.is(what, isPlayed ? 2 : 0, desk::events);
                Due.is(what + " alone", isPlayed ? 2 : 0, () -> desk.eventsAlone(4));
                if (isPlayed) {
                    Due.is(what, pitch + by, () -> desk.event(0, 2));
                    Due.is(what, pitch + by, () -> desk.event(1, 2));
                }
            }
        }
    }

    private static void pitchesOutsideAreNotPlayedAtAll() {
        OvertureDesk desk = desk(new int[] {10, 500, 124}, new int[] {10, 10, 123});
        desk.setLoop(0, 600, 2);
        desk.setTrack(0, false, false, 4, 0);
        Due.is("events", 4, desk::events);
        Due.is("sounding", 1, () -> desk.sounding(15));
        Due.is("most", 1, desk::most);
        Due.is("playedTo", 620, desk::playedTo);
        Due.is("meanForce", 123.0, desk::meanForce);
        Due.is("eventsAlone", 4, () -> desk.eventsAlone(0));
        Due.is("what is written stays", 1 << 4 | 1 << 3, () -> desk.chordAt(15));
        Due.is("what is written stays", 124, () -> desk.note(1, 3));
    }

    /** "+ DELAY, on ... (0, if that would be less; its LENGTH stays)" */
    private static void delaysBelow0() {
        int[][] told = {{48, -48, 0}, {47, -48, 0}, {49, -48, 1}, {0, -48, 0}, {0, -1, 0}, {1, -1, 0}, {2, -1, 1},
            {0, 0, 0}, {0, 48, 48}, {24, -25, 0}, {9599, -48, 9551}};
        for (int[] at : told) {
            OvertureDesk desk = desk(new int[] {at[0], 10, 60});
            desk.setTrack(0, false, false, 0, at[1]);
            plays(at[0] + " delayed by " + at[1], desk, on(at[2], 0, 60, 60), off(at[2] + 10, 0, 60));
            Due.is("it lies there", 1, () -> desk.sounding(at[2]));
            Due.is("it lies there", 1, () -> desk.sounding(at[2] + 9));
            Due.is("up to its end", 0, () -> desk.sounding(at[2] + 10));
            Due.is("it is written there still", 1, () -> desk.chordAt(at[0]));
        }
    }

    private static void delaysInALoop() {
        OvertureDesk desk = desk(new int[] {10, 960, 60});
        desk.setLoop(0, 20, 4);
        desk.setTrack(0, false, false, 0, -48);
        plays("each time from 0 on", desk, on(0, 0, 60, 60), on(0, 0, 60, 60), on(2, 0, 60, 60), off(10, 0, 60),
                off(10, 0, 60), off(12, 0, 60), on(22, 0, 60, 60), off(32, 0, 60));
        Due.is("two times at one tick", 2, () -> desk.sounding(0));
        Due.is("three times at one tick", 3, desk::most);
        desk.setTrack(0, false, false, 0, 48);
        desk.setLoop(0, 20, 1);
        plays("the end is cut ahead of the delay", desk, on(58, 0, 60, 60), off(68, 0, 60));
        desk.setLoop(11, 20, 2);
        plays("in the loop is who begins in it, without the delay", desk, on(58, 0, 60, 60), off(1018, 0, 60));
    }

    private static void delaysAbove9599() {
        OvertureDesk desk = desk(new int[] {9599, 960, 60});
        desk.setTrack(0, false, false, 0, 48);
        plays("above 9599", desk, on(9647, 0, 60, 60), off(10607, 0, 60));
        desk.setLoop(0, 9599, 8);
        plays("the latest there can be", desk, on(76840, 0, 60, 60), off(77800, 0, 60));
    }

    /** "by their TICKS, at one TICK OFFS first, then by TRACKS, then by PITCHES, then by FORCES" */
    private static void orderOfEvents() {
        OvertureDesk desk = new OvertureDesk();
        int[][] notes = {{5, 10, 10, 127, 127}, {0, 10, 10, 0, 1}, {0, 20, 5, 127, 127}, {1, 20, 5, 0, 1},
            {0, 20, 5, 126, 127}, {0, 20, 5, 127, 126}, {1, 20, 5, 0, 2}, {5, 20, 5, 0, 1}, {0, 21, 4, 0, 1},
            {5, 19, 6, 127, 127}, {1, 20, 5, 1, 1}};
        for (int[] note : notes) {
            Calls.call(desk, "write", note);
        }
        plays("order", desk, on(10, 0, 0, 1), on(10, 5, 127, 127), on(19, 5, 127, 127), off(20, 0, 0),
                off(20, 5, 127), on(20, 0, 126, 127), on(20, 0, 127, 126), on(20, 0, 127, 127), on(20, 1, 0, 1),
                on(20, 1, 0, 2), on(20, 1, 1, 1), on(20, 5, 0, 1), on(21, 0, 0, 1), off(25, 0, 0), off(25, 0, 126),
                off(25, 0, 127), off(25, 0, 127), off(25, 1, 0), off(25, 1, 0), off(25, 1, 1), off(25, 5, 0),
                off(25, 5, 127));
    }

    /** An off of the greatest track and pitch is told ahead of an on of the least ones. */
    private static void offsFirst() {
        OvertureDesk desk = new OvertureDesk();
        desk.write(5, 0, 10, 127, 127);
        desk.write(0, 10, 10, 0, 1);
        plays("offs first", desk, on(0, 5, 127, 127), off(10, 5, 127), on(10, 0, 0, 1), off(20, 0, 0));
        Due.is("neighbours do not sound together", 1, desk::most);
        OvertureDesk looped = desk(new int[] {0, 10, 60});
        looped.setLoop(0, 10, 3);
        plays("the off of one time ahead of the on of the next", looped, on(0, 0, 60, 60), off(10, 0, 60),
                on(10, 0, 60, 60), off(20, 0, 60), on(20, 0, 60, 60), off(30, 0, 60));
        Due.is("its times do not sound together", 1, looped::most);
    }

    /** The order is that of what is played: shifts and delays count. */
    private static void orderAtTheTickOfADelay() {
        OvertureDesk desk = desk(new int[] {20, 5, 50}, new int[] {10, 5, 70}, new int[] {48, 5, 60});
        desk.write(1, 0, 2, 1, 1);
        desk.setTrack(0, false, false, 0, -48);
        plays("all at 0", desk, on(0, 0, 50, 50), on(0, 0, 60, 60), on(0, 0, 70, 70), on(0, 1, 1, 1), off(2, 1, 1),
                off(5, 0, 50), off(5, 0, 60), off(5, 0, 70));
    }
}
