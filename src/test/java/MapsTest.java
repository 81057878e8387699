/** Promises 12 to 15 and 22 to 26: tracks, speeds, meters, the loop; when and where. */
public final class MapsTest {
    public static void main(String[] args) {
        promise12SetTrack();
        promise13SetSpeed();
        promise14SetMeter();
        promise15SetLoop();
        promise22TimeOf();
        promise23TickOf();
        promise24BarOf();
        promise25BeatOf();
        promise26TickOfBar();
        Due.end("MapsTest");
    }

    private static void promise12SetTrack() {
        OvertureDesk desk = new OvertureDesk();
        desk.write(0, 100, 10, 60, 60);
        desk.write(5, 100, 10, 60, 60);
        Due.is("12: before", 0, () -> desk.setTrack(0, false, false, 24, 48));
        Due.is("12: shift", 84, () -> desk.event(2, 2));
        Due.is("12: delay", 148, () -> desk.event(2, 0));
        Due.is("12: before", 24, () -> desk.setTrack(0, false, false, -24, -48));
        Due.is("12: shift", 36, () -> desk.event(0, 2));
        Due.is("12: delay", 52, () -> desk.event(0, 0));
        Due.is("12: silent", -24, () -> desk.setTrack(0, true, false, 3, 0));
        Due.is("12: silent", 2, desk::events);
        Due.is("12: alone", 3, () -> desk.setTrack(0, false, true, 3, 0));
        Due.is("12: alone", 63, () -> desk.event(0, 2));
        Due.is("12: both alone", 0, () -> desk.setTrack(5, false, true, 0, 0));
        Due.is("12: both alone", 4, desk::events);
        Due.is("12: silent and alone", 3, () -> desk.setTrack(0, true, true, 3, 0));
        Due.is("12: silent and alone", 2, desk::events);
        Due.is("12: silent and alone, no other", 0, () -> desk.setTrack(5, false, false, 0, 0));
        Due.is("12: none is heard", 0, desk::events);
        Due.index("12: track -1", () -> desk.setTrack(-1, false, false, 0, 0));
        Due.index("12: track 6", () -> desk.setTrack(6, false, false, 0, 0));
        Due.index("12: track and shift", () -> desk.setTrack(6, false, false, 25, 49));
        Due.argument("12: shift 25", () -> desk.setTrack(0, false, false, 25, 0));
        Due.argument("12: shift -25", () -> desk.setTrack(0, false, false, -25, 0));
        Due.argument("12: delay 49", () -> desk.setTrack(0, false, false, 0, 49));
        Due.argument("12: delay -49", () -> desk.setTrack(0, false, false, 0, -49));
        Due.is("12: nothing set", 3, () -> desk.setTrack(0, false, false, 0, 0));
    }

    private static void promise13SetSpeed() {
        OvertureDesk desk = new OvertureDesk();
        Due.is("13: in its place", 1, () -> desk.setSpeed(0, 200));
        Due.is("13: slowest", 31250, () -> desk.timeOf(100));
        Due.is("13: greatest", 2, () -> desk.setSpeed(9599, 3000));
        Due.is("13: another", 3, () -> desk.setSpeed(100, 3000));
        Due.is("13: in its place", 3, () -> desk.setSpeed(100, 2500));
        Due.is("13: both", 33750, () -> desk.timeOf(200));
        Due.argument("13: tick -1", () -> desk.setSpeed(-1, 1200));
        Due.argument("13: tick 9600", () -> desk.setSpeed(9600, 1200));
        Due.argument("13: speed 199", () -> desk.setSpeed(1, 199));
        Due.argument("13: speed 3001", () -> desk.setSpeed(1, 3001));
        Due.argument("13: speed 1", () -> desk.setSpeed(1, 1));
        Due.argument("13: speed -1", () -> desk.setSpeed(0, -1));
        Due.argument("13: tick and speed 0", () -> desk.setSpeed(-1, 0));
        Due.state("13: the first one", () -> desk.setSpeed(0, 0));
        Due.state("13: none begins", () -> desk.setSpeed(99, 0));
        Due.state("13: none begins", () -> desk.setSpeed(101, 0));
        Due.is("13: no more", 2, () -> desk.setSpeed(100, 0));
        Due.is("13: no more", 62500, () -> desk.timeOf(200));
        for (int i = 1; i <= 9; i++) {
            int count = i;
            Due.is("13: " + count, 2 + count, () -> desk.setSpeed(count * 10, 1000 + count));
        }
        Due.state("13: 12", () -> desk.setSpeed(5, 1200));
        Due.argument("13: 12 and wrong", () -> desk.setSpeed(5, 3001));
        Due.is("13: in its place of 11", 11, () -> desk.setSpeed(90, 1200));
        Due.is("13: in the place of the last", 11, () -> desk.setSpeed(9599, 1200));
        Due.is("13: back to 10", 10, () -> desk.setSpeed(10, 0));
        Due.is("13: 11 again", 11, () -> desk.setSpeed(5, 1200));
    }

    private static void promise14SetMeter() {
        OvertureDesk desk = new OvertureDesk();
        Due.is("14: in its place", 1, () -> desk.setMeter(0, 3, 8));
        Due.is("14: 3 / 8", 144, () -> desk.tickOfBar(1));
        Due.is("14: last bar", 2, () -> desk.setMeter(99, 16, 2));
        Due.is("14: another", 3, () -> desk.setMeter(2, 1, 16));
        Due.is("14: 1 / 16", 312, () -> desk.tickOfBar(3));
        Due.is("14: in its place", 3, () -> desk.setMeter(2, 2, 4));
        Due.is("14: 2 / 4", 480, () -> desk.tickOfBar(3));
        Due.argument("14: bar -1", () -> desk.setMeter(-1, 4, 4));
        Due.argument("14: bar 100", () -> desk.setMeter(100, 4, 4));
        Due.argument("14: n -1", () -> desk.setMeter(1, -1, 4));
        Due.argument("14: n 17", () -> desk.setMeter(1, 17, 4));
        for (int d : new int[] {Integer.MIN_VALUE, -2, 0, 1, 3, 5, 6, 7, 9, 12, 15, 17, 32}) {
            Due.argument("14: d " + d, () -> desk.setMeter(1, 4, d));
        }
        Due.argument("14: n 1, d 3", () -> desk.setMeter(1, 1, 3));
        Due.argument("14: bar and n 0", () -> desk.setMeter(100, 0, 4));
        Due.state("14: the first one", () -> desk.setMeter(0, 0, 4));
        Due.state("14: none begins", () -> desk.setMeter(1, 0, 4));
        Due.state("14: d is not looked at", () -> desk.setMeter(1, 0, -7));
        Due.is("14: no more", 2, () -> desk.setMeter(2, 0, -7));
        Due.is("14: no more", 432, () -> desk.tickOfBar(3));
        for (int i = 1; i <= 9; i++) {
            int count = i;
            Due.is("14: " + count, 2 + count, () -> desk.setMeter(count * 10, count, 4));
        }
        Due.state("14: 12", () -> desk.setMeter(5, 4, 4));
        Due.argument("14: 12 and wrong", () -> desk.setMeter(5, 4, 3));
        Due.is("14: in its place of 11", 11, () -> desk.setMeter(90, 4, 4));
        Due.is("14: back to 10", 10, () -> desk.setMeter(99, 0, 0));
        Due.is("14: 11 again", 11, () -> desk.setMeter(5, 4, 4));
    }

    private static void promise15SetLoop() {
        OvertureDesk desk = new OvertureDesk();
        desk.write(0, 0, 960, 60, 60);
        Due.is("15: none before", 0, () -> desk.setLoop(0, 9600, 8));
        Due.is("15: eight times", 16, desk::events);
        Due.is("15: before", 8, () -> desk.setLoop(0, 96, 1));
        Due.is("15: once", 96, desk::playedTo);
        Due.is("15: before", 1, () -> desk.setLoop(9599, 9600, 0));
        Due.is("15: none any more", 960, desk::playedTo);
        Due.is("15: none any more", 0, () -> desk.setLoop(0, 1, 0));
        Due.argument("15: from -1", () -> desk.setLoop(-1, 1, 0));
        Due.argument("15: from 9600", () -> desk.setLoop(9600, 9601, 0));
        Due.argument("15: to is from", () -> desk.setLoop(3, 3, 1));
        Due.argument("15: to 9601", () -> desk.setLoop(3, 9601, 1));
        Due.argument("15: far to", () -> desk.setLoop(3, Integer.MIN_VALUE, 0));
        Due.argument("15: times -1", () -> desk.setLoop(0, 1, -1));
        Due.argument("15: times 9", () -> desk.setLoop(0, 1, 9));
    }

    private static void promise22TimeOf() {
        OvertureDesk desk = new OvertureDesk();
        Due.is("22: 0", 0, () -> desk.timeOf(0));
        Due.is("22: cut", 52, () -> desk.timeOf(1));
        Due.is("22: a quarter", 5000, () -> desk.timeOf(96));
        Due.is("22: last", 5208281, () -> desk.timeOf(99999));
        desk.setSpeed(1, 1200);
        Due.is("22: each stretch cut", 104, () -> desk.timeOf(3) - desk.timeOf(1));
        Due.is("22: each stretch cut", 52 + 104, () -> desk.timeOf(3));
        desk.setSpeed(3, 3000);
        Due.is("22: where one begins", 156, () -> desk.timeOf(3));
        Due.is("22: behind it", 176, () -> desk.timeOf(4));
        desk.setSpeed(0, 200);
        desk.setSpeed(1, 0);
        desk.setSpeed(3, 0);
        Due.is("22: slowest", 31249687, () -> desk.timeOf(99999));
        Due.argument("22: -1", () -> desk.timeOf(-1));
        Due.argument("22: 100000", () -> desk.timeOf(100000));
        Due.argument("22: far", () -> desk.timeOf(Integer.MIN_VALUE));
    }

    private static void promise23TickOf() {
        OvertureDesk desk = new OvertureDesk();
        Due.is("23: 0", 0, () -> desk.tickOf(0));
        Due.is("23: 51", 0, () -> desk.tickOf(51));
        Due.is("23: 52", 1, () -> desk.tickOf(52));
        Due.is("23: 4999", 95, () -> desk.tickOf(4999));
        Due.is("23: 5000", 96, () -> desk.tickOf(5000));
        Due.is("23: near the last", 99998, () -> desk.tickOf(5208280));
        Due.is("23: the last", 99999, () -> desk.tickOf(5208281));
        Due.is("23: far", 99999, () -> desk.tickOf(Integer.MAX_VALUE));
        for (int tick = 0; tick < 20000; tick += 7) {
            int here = tick;
            OvertureDesk mapped = new OvertureDesk();
            mapped.setSpeed(10, 3000);
            mapped.setSpeed(9599, 200);
            Due.is("23: " + here, here, () -> mapped.tickOf(mapped.timeOf(here)));
            Due.is("23: behind " + here, here, () -> mapped.tickOf(mapped.timeOf(here + 1) - 1));
        }
        Due.argument("23: -1", () -> desk.tickOf(-1));
        Due.argument("23: far", () -> desk.tickOf(Integer.MIN_VALUE));
    }

    private static OvertureDesk withMeters() {
        OvertureDesk desk = new OvertureDesk();
        desk.setMeter(2, 7, 8);
        desk.setMeter(3, 16, 16);
        desk.setMeter(99, 1, 2);
        return desk;
    }

    private static void promise24BarOf() {
        OvertureDesk plain = new OvertureDesk();
        Due.is("24: 0", 0, () -> plain.barOf(0));
        Due.is("24: 383", 0, () -> plain.barOf(383));
        Due.is("24: 384", 1, () -> plain.barOf(384));
        Due.is("24: last", 260, () -> plain.barOf(99999));
        OvertureDesk desk = withMeters();
        Due.is("24: 767", 1, () -> desk.barOf(767));
        Due.is("24: 768", 2, () -> desk.barOf(768));
        Due.is("24: 1103", 2, () -> desk.barOf(1103));
        Due.is("24: 1104", 3, () -> desk.barOf(1104));
        Due.is("24: 37967", 98, () -> desk.barOf(37967));
        Due.is("24: 37968", 99, () -> desk.barOf(37968));
        Due.is("24: 38160", 100, () -> desk.barOf(38160));
        Due.is("24: last", 422, () -> desk.barOf(99999));
        Due.argument("24: -1", () -> plain.barOf(-1));
        Due.argument("24: 100000", () -> plain.barOf(100000));
    }

    private static void promise25BeatOf() {
        OvertureDesk desk = withMeters();
        Due.is("25: 0", 0, () -> desk.beatOf(0));
        Due.is("25: 95", 0, () -> desk.beatOf(95));
        Due.is("25: 96", 1, () -> desk.beatOf(96));
        Due.is("25: 383", 3, () -> desk.beatOf(383));
        Due.is("25: 384", 0, () -> desk.beatOf(384));
        Due.is("25: 815", 0, () -> desk.beatOf(815));
        Due.is("25: 816", 1, () -> desk.beatOf(816));
        Due.is("25: 1103", 6, () -> desk.beatOf(1103));
        Due.is("25: 1104", 0, () -> desk.beatOf(1104));
        Due.is("25: 1487", 15, () -> desk.beatOf(1487));
        Due.is("25: 38159", 0, () -> desk.beatOf(38159));
        Due.is("25: last", 0, () -> desk.beatOf(99999));
        Due.argument("25: -1", () -> desk.beatOf(-1));
        Due.argument("25: 100000", () -> desk.beatOf(100000));
    }

    private static void promise26TickOfBar() {
        OvertureDesk plain = new OvertureDesk();
        Due.is("26: 0", 0, () -> plain.tickOfBar(0));
        Due.is("26: 999", 383616, () -> plain.tickOfBar(999));
        OvertureDesk desk = withMeters();
        Due.is("26: 1", 384, () -> desk.tickOfBar(1));
        Due.is("26: 2", 768, () -> desk.tickOfBar(2));
        Due.is("26: 3", 1104, () -> desk.tickOfBar(3));
        Due.is("26: 4", 1488, () -> desk.tickOfBar(4));
        Due.is("26: 99", 37968, () -> desk.tickOfBar(99));
        Due.is("26: 999", 210768, () -> desk.tickOfBar(999));
        Due.argument("26: -1", () -> desk.tickOfBar(-1));
        Due.argument("26: 1000", () -> desk.tickOfBar(1000));
    }
}
