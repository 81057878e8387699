/** Long runs of all calls, right and wrong ones, on the class and on the model: all answers are alike. */
public final class ModelTest {
    private static final int RUNS = 400;
    private static final int CALLS = 512;
    private static final int KINDS = 37;

    private static long seed;
    private static int mood;
    private static int made;

    public static void main(String[] args) {
        for (int run = 0; run < RUNS; run++) {
            seed = run * 7919L + 12345;
            mood = run % 5;
            OvertureDesk desk = new OvertureDesk();
            Model model = new Model();
            made = 0;
            for (int call = 0; call < CALLS; call++) {
                compare("run " + run + ", call " + call, desk, model, kind(call));
            }
        }
        Due.end("ModelTest");
    }

    /** A counter's own row of numbers, so that each run of the test is the same. */
    private static int any(int bound) {
        seed = seed * 6364136223846793005L + 1442695040888963407L;
        return (int) ((seed >>> 33) % bound);
    }

    private static int between(int least, int most) {
        return least + any(Math.max(1, most - least + 1));
    }

    /** Mostly a number that is allowed, now and then one at or beyond its edges. */
    private static int some(int least, int most) {
        switch (any(60)) {
            case 0:
                return least - 1;
            case 1:
                return most + 1;
            case 2:
                return any(2) == 0 ? Integer.MIN_VALUE : Integer.MAX_VALUE;
            case 3:
            case 4:
                return least;
            case 5:
            case 6:
                return most;
            default:
                return between(least, most);
        }
    }

    /** Some runs stay at few ticks and pitches, so that notes meet. */
    private static int tick() {
        switch (mood) {
            case 0:
                return some(0, 9599);
            case 1:
                return some(0, 40);
            case 2:
                return 24 * any(20);
            case 3:
                return some(9400, 9599);
            default:
                return any(3) == 0 ? some(0, 9599) : some(0, 1000);
        }
    }

    private static int length() {
        return mood == 1 || mood == 2 ? some(1, 20) : some(1, 960);
    }

    private static int pitch() {
        return mood % 2 == 0 ? some(0, 127) : between(58, 63);
    }

    private static int track() {
        return mood == 1 ? any(2) : some(0, 5);
    }

    private static int ranged() {
        return any(2) == 0 ? -1 : track();
    }

    private static int behind(int from) {
        return any(4) == 0 || from > 9599 || from < 0 ? some(1, 9600) : some(from + 1, Math.min(9600, from + 1000));
    }

    /** More changes than questions, and a full desk in some runs. */
    private static int kind(int call) {
        if (mood == 4 && call < 70) {
            return 0;
        }
        int kind = any(KINDS + 12);
        return kind < KINDS ? kind : kind % 3 == 0 ? 0 : kind % 3 == 1 ? 6 + any(2) : 10 + any(10);
    }

    private static void compare(String where, OvertureDesk d, Model m, int kind) {
        if (kind < 10) {
            notes(where, d, m, kind);
        } else if (kind < 20) {
            maps(where, d, m, kind);
        } else {
            questions(where, d, m, kind);
        }
        if (any(25) == 0) {
            same(where + " digest()", m::digest, d::digest);
        }
    }

    private static void notes(String where, OvertureDesk d, Model m, int kind) {
        int tick = tick();
        int track = kind == 0 ? track() : ranged();
        int to = behind(tick);
        int place = some(0, Math.max(0, m.notes() - 1));
        switch (kind) {
            case 0: {
                int length = length();
                int pitch = pitch();
                int force = some(1, 127);
                same(where + " write", () -> m.write(track, tick, length, pitch, force),
                        () -> d.write(track, tick, length, pitch, force));
                break;
            }
            case 1:
                same(where + " remove", () -> m.remove(place), () -> d.remove(place));
                break;
            case 2: {
                boolean isNote = place >= 0 && place < m.notes();
                int at = isNote && any(8) > 0 ? some(m.note(place, 1) + 1, m.note(place, 1) + m.note(place, 2) - 1 + any(2)) : tick;
                same(where + " split", () -> m.split(place, at), () -> d.split(place, at));
                break;
            }
            case 3: {
                int by = any(4) == 0 ? some(-127, 127) : between(-6, 6);
                same(where + " transpose", () -> m.transpose(track, tick, to, by), () -> d.transpose(track, tick, to, by));
                break;
            }
            case 4: {
                int percents = some(0, 400);
                same(where + " weigh", () -> m.weigh(track, tick, to, percents), () -> d.weigh(track, tick, to, percents));
                break;
            }
            case 5: {
                int step = any(2) == 0 ? some(1, 384) : some(1, 30);
                int swing = some(0, 75);
                int strength = any(2) == 0 ? some(0, 100) : 100;
                same(where + " quantise", () -> m.quantise(track, tick, to, step, swing, strength),
                        () -> d.quantise(track, tick, to, step, swing, strength));
                break;
            }
            case 6:
                same(where + " copy", () -> m.copy(track, tick, to), () -> d.copy(track, tick, to));
                break;
            case 7:
                same(where + " paste", () -> m.paste(tick), () -> d.paste(tick));
                break;
            case 8:
                same(where + " notes", m::notes, d::notes);
                break;
            default: {
                int what = some(0, 4);
                same(where + " note", () -> m.note(place, what), () -> d.note(place, what));
                break;
            }
        }
    }

    private static void maps(String where, OvertureDesk d, Model m, int kind) {
        int tick = tick();
        switch (kind) {
            case 10: {
                int track = track();
                boolean isSilent = any(4) == 0;
                boolean isAlone = any(4) == 0;
                int shift = some(-24, 24);
                int delay = some(-48, 48);
                same(where + " setTrack", () -> m.setTrack(track, isSilent, isAlone, shift, delay),
                        () -> d.setTrack(track, isSilent, isAlone, shift, delay));
                break;
            }
            case 11: {
                int near = any(3) == 0 ? tick : 50 * any(14);
                int speed = any(4) == 0 ? 0 : some(200, 3000);
                same(where + " setSpeed", () -> m.setSpeed(near, speed), () -> d.setSpeed(near, speed));
                break;
            }
            case 12: {
                int bar = any(3) == 0 ? some(0, 99) : any(14);
                int n = any(4) == 0 ? 0 : some(1, 16);
                int beat = any(10) == 0 ? some(0, 20) : 2 << any(4);
                same(where + " setMeter", () -> m.setMeter(bar, n, beat), () -> d.setMeter(bar, n, beat));
                break;
            }
            case 13: {
                int to = behind(tick);
                int times = some(0, 8);
                same(where + " setLoop", () -> m.setLoop(tick, to, times), () -> d.setLoop(tick, to, times));
                break;
            }
            case 14:
                if (any(3) == 0) {
                    same(where + " openGroup", m::openGroup, d::openGroup);
                }
                break;
            case 15:
                same(where + " closeGroup", m::closeGroup, d::closeGroup);
                break;
            case 16:
                same(where + " undo", m::undo, d::undo);
                break;
            case 17:
                same(where + " redo", m::redo, d::redo);
                break;
            case 18:
                same(where + " undos", m::undos, d::undos);
                break;
            default:
                same(where + " redos", m::redos, d::redos);
                break;
        }
    }

    private static void questions(String where, OvertureDesk d, Model m, int kind) {
        int tick = tick();
        int far = any(2) == 0 ? tick : some(0, 99999);
        int to = behind(tick);
        int track = ranged();
        int step = some(1, 384);
        int event = some(0, Math.max(0, m.events() - 1));
        int what = some(0, 3);
        int time = any(4) == 0 ? some(0, Integer.MAX_VALUE - 1) : between(0, 6000000);
        int bar = some(0, 999);
        switch (kind) {
            case 20 -> same(where + " timeOf", () -> m.timeOf(far), () -> d.timeOf(far));
            case 21 -> same(where + " tickOf", () -> m.tickOf(time), () -> d.tickOf(time));
            case 22 -> same(where + " barOf", () -> m.barOf(far), () -> d.barOf(far));
            case 23 -> same(where + " beatOf", () -> m.beatOf(far), () -> d.beatOf(far));
            case 24 -> same(where + " tickOfBar", () -> m.tickOfBar(bar), () -> d.tickOfBar(bar));
            case 25 -> same(where + " chordAt", () -> m.chordAt(tick), () -> d.chordAt(tick));
            case 26 -> same(where + " clashes", m::clashes, d::clashes);
            case 27 -> same(where + " events", m::events, d::events);
            case 28 -> same(where + " event", () -> m.event(event, what), () -> d.event(event, what));
            case 29 -> same(where + " sounding", () -> m.sounding(far), () -> d.sounding(far));
            case 30 -> same(where + " most", m::most, d::most);
            case 31 -> same(where + " playedTo", m::playedTo, d::playedTo);
            case 32 -> same(where + " meanForce", m::meanForce, d::meanForce);
            case 33 -> same(where + " wouldMove", () -> m.wouldMove(track, tick, to, step), () -> d.wouldMove(track, tick, to, step));
            case 34 -> same(where + " eventsAlone", () -> m.eventsAlone(track), () -> d.eventsAlone(track));
            case 35 -> same(where + " bestStep", () -> m.bestStep(track, tick, to), () -> d.bestStep(track, tick, to));
            default -> same(where + " digest", m::digest, d::digest);
        }
    }

    /** An object is used for at most 512 calls: what comes behind them is left out. */
    private static void same(String what, Due.Call due, Due.Call call) {
        if (made < CALLS) {
            made++;
            Due.is(what, Due.told(due), call);
        }
    }
}
