/** Desks in several states, and all that can be told of one. A story and the making together stay under 512 calls. */
final class Desks {
    private Desks() {
    }

    /** 60 notes on 6 tracks, ten on each, at the ticks 0 to 5900, in one change. */
    static OvertureDesk full() {
        OvertureDesk desk = new OvertureDesk();
        desk.openGroup();
        for (int i = 0; i < 60; i++) {
            desk.write(i % 6, i * 100, 50, 60, 100);
        }
        desk.closeGroup();
        return desk;
    }

    /** Five notes, none of them on the tracks 3 and 4, and something of each other kind; 13 changes. */
    static OvertureDesk used() {
        OvertureDesk desk = new OvertureDesk();
        desk.write(0, 90, 100, 60, 10);
        desk.write(1, 100, 50, 64, 20);
        desk.write(1, 5, 960, 67, 30);
        desk.write(2, 9599, 50, 10, 40);
        desk.write(5, 300, 7, 120, 50);
        desk.setTrack(1, false, false, 3, -20);
        desk.setTrack(5, false, false, -2, 48);
        desk.setSpeed(100, 700);
        desk.setMeter(2, 7, 8);
        desk.copy(-1, 80, 400);
        desk.weigh(-1, 0, 9600, 150);
        desk.setLoop(50, 200, 2);
        desk.setLoop(50, 200, 3);
        desk.transpose(0, 0, 9600, 1);
        return desk;
    }

    /** The used one, with three changes that can be done again. */
    static OvertureDesk undone() {
        OvertureDesk desk = used();
        for (int i = 0; i < 3; i++) {
            desk.undo();
        }
        return desk;
    }

    /** The used one, with a group open in which a note was written, and two changes that can be done again. */
    static OvertureDesk grouped() {
        OvertureDesk desk = used();
        desk.undo();
        desk.undo();
        desk.openGroup();
        desk.write(2, 50, 60, 70, 80);
        return desk;
    }

    /** 60 notes, 11 speeds and 11 meters, and 20 notes on the clipboard, in two changes. */
    static OvertureDesk crowded() {
        OvertureDesk desk = new OvertureDesk();
        desk.setTrack(2, false, false, 1, 1);
        desk.openGroup();
        for (int i = 0; i < 5; i++) {
            desk.write(i, i, 50, 10 + 20 * i, 60 + i);
        }
        for (int far = 10; far <= 40; far *= 2) {
            desk.copy(-1, 0, 100);
            desk.paste(far);
        }
        desk.copy(-1, 0, 40);
        desk.paste(2000);
        for (int i = 1; i <= 10; i++) {
            desk.setSpeed(100 * i, 1200 + i);
            desk.setMeter(i, i, 8);
        }
        desk.closeGroup();
        return desk;
    }

    /** All that is told of a desk without a change. */
    static String shown(OvertureDesk desk) {
        StringBuilder text = new StringBuilder();
        text.append(desk.digest()).append(' ').append(desk.meanForce()).append(' ').append(desk.sounding(150));
        text.append(' ').append(desk.chordAt(150)).append(' ').append(desk.timeOf(99999));
        text.append(' ').append(desk.tickOf(3000000)).append(' ').append(desk.barOf(99999));
        text.append(' ').append(desk.beatOf(99998)).append(' ').append(desk.tickOfBar(999));
        return text.append('\n').toString();
    }

    /** All that is told, and what can be done again and taken back, whether a group is open, what is on the clipboard. */
    static String story(OvertureDesk desk) {
        StringBuilder text = new StringBuilder(shown(desk));
        repeat(text, desk, "redo");
        repeat(text, desk, "undo");
        repeat(text, desk, "redo");
        step(text, desk, "closeGroup");
        step(text, desk, "undo");
        step(text, desk, "paste", 9580);
        step(text, desk, "undo");
        return text.toString();
    }

    private static void repeat(StringBuilder text, OvertureDesk desk, String name) {
        for (int i = 0; i <= 20 && step(text, desk, name); i++) {
            text.append(i).append(' ');
        }
    }

    private static boolean step(StringBuilder text, OvertureDesk desk, String name, int... args) {
        String answer = Due.told(() -> Calls.call(desk, name, args));
        text.append(name).append(' ').append(answer).append(' ').append(shown(desk));
        return !answer.endsWith("Exception");
    }
}
