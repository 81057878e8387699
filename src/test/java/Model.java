import java.util.ArrayList;
import java.util.Comparator;
import java.util.List;

/** A second desk, written straight from the document, slow and plain, to compare the class with. */
final class Model {
    static final class Note {
        final int track;
        final int start;
        final int length;
        final int pitch;
        final int force;

        Note(int track, int start, int length, int pitch, int force) {
            this.track = track;
            this.start = start;
            this.length = length;
            this.pitch = pitch;
            this.force = force;
        }

        int end() {
            return start + length;
        }

        boolean liesAt(int tick) {
            return start <= tick && tick < end();
        }

        boolean isIn(int range, int from, int to) {
            return (range == -1 || range == track) && start >= from && start < to;
        }

        List<Integer> facts() {
            return List.of(track, start, length, pitch, force);
        }
    }

    private static final Comparator<Note> BY_PLACE = Comparator.comparingInt((Note n) -> n.track)
            .thenComparingInt(n -> n.start).thenComparingInt(n -> n.pitch)
            .thenComparingInt(n -> n.length).thenComparingInt(n -> n.force);

    private List<Note> notes = new ArrayList<>();
    private int[][] tracks = new int[6][4];
    private java.util.TreeMap<Integer, Integer> speeds = new java.util.TreeMap<>();
    private java.util.TreeMap<Integer, int[]> meters = new java.util.TreeMap<>();
    private int[] loop = null;
    private List<Note> clipboard = new ArrayList<>();
    private final ArrayList<Model> past = new ArrayList<>();
    private final ArrayList<Model> future = new ArrayList<>();
    private Model opened = null;

    Model() {
        speeds.put(0, 1200);
        meters.put(0, new int[] {4, 4});
    }

    private Model song() {
        Model kept = new Model();
        kept.take(this);
        return kept;
    }

    private void take(Model other) {
        notes = new ArrayList<>(other.notes);
        tracks = new int[6][];
        for (int i = 0; i < 6; i++) {
            tracks[i] = other.tracks[i].clone();
        }
        speeds = new java.util.TreeMap<>(other.speeds);
        meters = new java.util.TreeMap<>(other.meters);
        loop = other.loop;
    }

    private String shown() {
        StringBuilder text = new StringBuilder();
        for (Note note : notes) {
            text.append(note.facts());
        }
        text.append(java.util.Arrays.deepToString(tracks)).append(speeds);
        meters.forEach((bar, meter) -> text.append(bar).append(java.util.Arrays.toString(meter)));
        return text.append(java.util.Arrays.toString(loop)).toString();
    }

    private void changed(Model before) {
        notes.sort(BY_PLACE);
        if (opened == null && !before.shown().equals(shown())) {
            made(before);
        }
    }

    private void made(Model before) {
        past.add(before);
        if (past.size() > 20) {
            past.remove(0);
        }
        future.clear();
    }

    private static void argument(boolean isRight) {
        if (!isRight) {
            throw new IllegalArgumentException();
        }
    }

    private static void state(boolean isRight) {
        if (!isRight) {
            throw new IllegalStateException();
        }
    }

    private static void index(boolean isRight) {
        if (!isRight) {
            throw new IndexOutOfBoundsException();
        }
    }

    private static void range(int track, int from, int to) {
        argument(track >= -1 && track <= 5);
        argument(from >= 0 && from <= 9599);
        argument(to >= from + 1 && to <= 9600);
    }

    int write(int track, int tick, int length, int pitch, int force) {
        argument(track >= 0 && track < 6 && tick >= 0 && tick < 9600 && length >= 1 && length <= 960);
        argument(pitch >= 0 && pitch < 128 && force >= 1 && force < 128);
        state(notes.size() < 60);
        Model before = song();
        Note note = new Note(track, tick, length, pitch, force);
        notes.add(note);
        changed(before);
        return notes.indexOf(note);
    }

    int remove(int place) {
        index(place >= 0 && place < notes.size());
        Model before = song();
        notes.remove(place);
        changed(before);
        return notes.size();
    }

    int split(int place, int tick) {
        index(place >= 0 && place < notes.size());
        Note note = notes.get(place);
        argument(note.liesAt(tick) && tick != note.start && tick <= 9599);
        state(notes.size() < 60);
        Model before = song();
        notes.set(place, new Note(note.track, note.start, tick - note.start, note.pitch, note.force));
        notes.add(new Note(note.track, tick, note.end() - tick, note.pitch, note.force));
        changed(before);
        return notes.size();
    }

    int transpose(int track, int from, int to, int by) {
        range(track, from, to);
        argument(by >= -127 && by <= 127);
        List<Note> behind = new ArrayList<>();
        int count = 0;
        for (Note n : notes) {
            boolean isIn = n.isIn(track, from, to);
            count += isIn ? 1 : 0;
            int pitch = isIn ? n.pitch + by : n.pitch;
            state(pitch >= 0 && pitch <= 127);
            behind.add(new Note(n.track, n.start, n.length, pitch, n.force));
        }
        Model before = song();
        notes = behind;
        changed(before);
        return count;
    }

    int weigh(int track, int from, int to, int percents) {
        range(track, from, to);
        argument(percents >= 0 && percents <= 400);
        Model before = song();
        int count = 0;
        for (int i = 0; i < notes.size(); i++) {
            Note n = notes.get(i);
            if (n.isIn(track, from, to)) {
                int force = n.force * percents / 100;
                notes.set(i, new Note(n.track, n.start, n.length, n.pitch, force < 1 ? 1 : force > 127 ? 127 : force));
                count++;
            }
        }
        changed(before);
        return count;
    }

    private static int drawn(int start, int step, int swing, int strength) {
        int target = -1;
        for (int number = 0; number * step <= 9599; number++) {
            int line = number * step + (number % 2 == 1 ? step * swing / 100 : 0);
            if (line <= 9599 && (target < 0 || Math.abs(line - start) < Math.abs(target - start))) {
                target = line;
            }
        }
        return start + (target - start) * strength / 100;
    }

    int quantise(int track, int from, int to, int step, int swing, int strength) {
        range(track, from, to);
        argument(step >= 1 && step <= 384 && swing >= 0 && swing <= 75 && strength >= 0 && strength <= 100);
        Model before = song();
        int count = 0;
        for (int i = 0; i < notes.size(); i++) {
            Note n = notes.get(i);
            if (n.isIn(track, from, to)) {
                int start = drawn(n.start, step, swing, strength);
                notes.set(i, new Note(n.track, start, n.length, n.pitch, n.force));
                count += start != n.start ? 1 : 0;
            }
        }
        changed(before);
        return count;
    }

    int copy(int track, int from, int to) {
        range(track, from, to);
        clipboard = new ArrayList<>();
        for (Note n : notes) {
            if (n.isIn(track, from, to)) {
                clipboard.add(new Note(n.track, n.start - from, n.length, n.pitch, n.force));
            }
        }
        return clipboard.size();
    }

    int paste(int tick) {
        argument(tick >= 0 && tick <= 9599);
        List<Note> pasted = new ArrayList<>();
        for (Note n : clipboard) {
            if (n.start + tick <= 9599) {
                pasted.add(new Note(n.track, n.start + tick, n.length, n.pitch, n.force));
            }
        }
        state(notes.size() + pasted.size() <= 60);
        Model before = song();
        notes.addAll(pasted);
        changed(before);
        return pasted.size();
    }

    int notes() {
        return notes.size();
    }

    int note(int place, int what) {
        index(place >= 0 && place < notes.size());
        argument(what >= 0 && what <= 4);
        return notes.get(place).facts().get(what);
    }

    int setTrack(int track, boolean isSilent, boolean isAlone, int shift, int delay) {
        index(track >= 0 && track <= 5);
        argument(shift >= -24 && shift <= 24 && delay >= -48 && delay <= 48);
        Model before = song();
        int old = tracks[track][2];
        tracks[track] = new int[] {isSilent ? 1 : 0, isAlone ? 1 : 0, shift, delay};
        changed(before);
        return old;
    }

    int setSpeed(int tick, int speed) {
        argument(tick >= 0 && tick <= 9599 && (speed == 0 || speed >= 200 && speed <= 3000));
        state(speed != 0 || tick != 0 && speeds.containsKey(tick));
        state(speed == 0 || speeds.containsKey(tick) || speeds.size() < 11);
        Model before = song();
        if (speed == 0) {
            speeds.remove(tick);
        } else {
            speeds.put(tick, speed);
        }
        changed(before);
        return speeds.size();
    }

    int setMeter(int bar, int n, int d) {
        argument(bar >= 0 && bar <= 99 && n >= 0 && n <= 16 && (n == 0 || List.of(2, 4, 8, 16).contains(d)));
        state(n != 0 || bar != 0 && meters.containsKey(bar));
        state(n == 0 || meters.containsKey(bar) || meters.size() < 11);
        Model before = song();
        if (n == 0) {
            meters.remove(bar);
        } else {
            meters.put(bar, new int[] {n, d});
        }
        changed(before);
        return meters.size();
    }

    int setLoop(int from, int to, int times) {
        range(0, from, to);
        argument(times >= 0 && times <= 8);
        Model before = song();
        int old = loop == null ? 0 : loop[2];
        loop = times == 0 ? null : new int[] {from, to, times};
        changed(before);
        return old;
    }

    int openGroup() {
        state(opened == null);
        opened = song();
        return past.size();
    }

    boolean closeGroup() {
        state(opened != null);
        Model before = opened;
        opened = null;
        boolean isChange = !before.shown().equals(shown());
        if (isChange) {
            made(before);
        }
        return isChange;
    }

    int undo() {
        state(!past.isEmpty() && opened == null);
        future.add(song());
        take(past.remove(past.size() - 1));
        return past.size();
    }

    int redo() {
        state(!future.isEmpty() && opened == null);
        past.add(song());
        take(future.remove(future.size() - 1));
        return future.size();
    }

    int undos() {
        return past.size();
    }

    int redos() {
        return future.size();
    }

    private int time(int tick) {
        long sum = 0;
        for (java.util.Map.Entry<Integer, Integer> one : speeds.entrySet()) {
            Integer next = speeds.higherKey(one.getKey());
            int to = next == null ? tick : Math.min(next, tick);
            if (one.getKey() < tick) {
                sum += (to - one.getKey()) * 62500L / one.getValue();
            }
        }
        return (int) sum;
    }

    int timeOf(int tick) {
        argument(tick >= 0 && tick <= 99999);
        return time(tick);
    }

    int tickOf(int time) {
        argument(time >= 0);
        int tick = 0;
        for (int jump : new int[] {1000, 10, 1}) {
            while (tick + jump <= 99999 && time(tick + jump) <= time) {
                tick += jump;
            }
        }
        return tick;
    }

    private int[] meter(int bar) {
        return meters.floorEntry(bar).getValue();
    }

    private int[] barAndBeat(int tick) {
        int bar = 0;
        int start = 0;
        while (start + meter(bar)[0] * (384 / meter(bar)[1]) <= tick) {
            start += meter(bar)[0] * (384 / meter(bar)[1]);
            bar++;
        }
        int beat = 0;
        while (start + (beat + 1) * (384 / meter(bar)[1]) <= tick) {
            beat++;
        }
        return new int[] {bar, beat};
    }

    int barOf(int tick) {
        argument(tick >= 0 && tick <= 99999);
        return barAndBeat(tick)[0];
    }

    int beatOf(int tick) {
        argument(tick >= 0 && tick <= 99999);
        return barAndBeat(tick)[1];
    }

    int tickOfBar(int bar) {
        argument(bar >= 0 && bar <= 999);
        int start = 0;
        for (int i = 0; i < bar; i++) {
            start += meter(i)[0] * (384 / meter(i)[1]);
        }
        return start;
    }

    int chordAt(int tick) {
        argument(tick >= 0 && tick <= 9599);
        boolean[] tones = new boolean[12];
        for (Note n : notes) {
            tones[n.pitch % 12] |= n.liesAt(tick);
        }
        int chord = 0;
        for (int k = 0; k < 12; k++) {
            chord += tones[k] ? 1 << k : 0;
        }
        return chord;
    }

    int clashes() {
        int count = 0;
        for (int i = 0; i < notes.size(); i++) {
            for (int j = 0; j < i; j++) {
                Note a = notes.get(i);
                Note b = notes.get(j);
                if (a.track == b.track && a.pitch == b.pitch && (a.liesAt(b.start) || b.liesAt(a.start))) {
                    count++;
                }
            }
        }
        return count;
    }

    /** The notes as they are played: their track, beginning, length, pitch and force are what is heard. */
    private List<Note> played(int onlyTrack) {
        boolean isAnyAlone = false;
        for (int[] track : tracks) {
            isAnyAlone |= track[1] == 1;
        }
        List<Note> played = new ArrayList<>();
        for (Note n : notes) {
            int[] track = tracks[n.track];
            boolean isHeard = onlyTrack >= 0 ? n.track == onlyTrack : track[0] == 0 && (!isAnyAlone || track[1] == 1);
            int pitch = n.pitch + track[2];
            if (!isHeard || pitch < 0 || pitch > 127) {
                continue;
            }
            for (int[] row : row(n)) {
                played.add(new Note(n.track, Math.max(0, row[0] + track[3]), row[1], pitch, n.force));
            }
        }
        return played;
    }

    /** Where a note begins in the played row, and how long it is, each time. */
    private List<int[]> row(Note n) {
        List<int[]> row = new ArrayList<>();
        if (loop == null || n.start < loop[0]) {
            row.add(new int[] {n.start, n.length});
            return row;
        }
        int round = loop[1] - loop[0];
        if (n.start >= loop[1]) {
            row.add(new int[] {n.start + round * (loop[2] - 1), n.length});
            return row;
        }
        for (int i = 0; i < loop[2]; i++) {
            int start = n.start + i * round;
            int end = Math.min(start + n.length, loop[1] + i * round);
            row.add(new int[] {start, end - start});
        }
        return row;
    }

    private List<int[]> rendered() {
        List<int[]> events = new ArrayList<>();
        for (Note n : played(-1)) {
            events.add(new int[] {n.start, n.track, n.pitch, n.force, 1, n.force});
            events.add(new int[] {n.end(), n.track, n.pitch, 0, 0, n.force});
        }
        events.sort(Comparator.comparingInt((int[] e) -> e[0]).thenComparingInt(e -> e[4])
                .thenComparingInt(e -> e[1]).thenComparingInt(e -> e[2]).thenComparingInt(e -> e[5]));
        return events;
    }

    int events() {
        return rendered().size();
    }

    int event(int event, int what) {
        List<int[]> events = rendered();
        index(event >= 0 && event < events.size());
        argument(what >= 0 && what <= 3);
        return events.get(event)[what];
    }

    int sounding(int tick) {
        argument(tick >= 0 && tick <= 99999);
        return (int) played(-1).stream().filter(n -> n.liesAt(tick)).count();
    }

    int most() {
        int[] lying = new int[100000];
        int most = 0;
        for (Note n : played(-1)) {
            for (int tick = n.start; tick < n.end(); tick++) {
                most = Math.max(most, ++lying[tick]);
            }
        }
        return most;
    }

    int playedTo() {
        return played(-1).stream().mapToInt(Note::end).max().orElse(0);
    }

    double meanForce() {
        return played(-1).stream().mapToInt(n -> n.force).average().orElse(0);
    }

    int wouldMove(int track, int from, int to, int step) {
        range(track, from, to);
        argument(step >= 1 && step <= 384);
        Model other = song();
        return other.quantise(track, from, to, step, 0, 100);
    }

    int eventsAlone(int track) {
        index(track >= 0 && track <= 5);
        return 2 * played(track).size();
    }

    int bestStep(int track, int from, int to) {
        range(track, from, to);
        int best = 6;
        for (int step : new int[] {8, 12, 16, 24, 32, 48, 96}) {
            if (wouldMove(track, from, to, step) <= wouldMove(track, from, to, best)) {
                best = step;
            }
        }
        return best;
    }

    long digest() {
        List<Integer> values = new ArrayList<>();
        values.add(notes.size());
        notes.forEach(n -> values.addAll(n.facts()));
        values.addAll(List.of(past.size(), future.size(), time(9599), tickOf(1000000), barOf(9599), beatOf(1000)));
        values.addAll(List.of(tickOfBar(7), clashes(), events()));
        rendered().forEach(e -> values.addAll(List.of(e[0], e[1], e[2], e[3])));
        values.addAll(List.of(most(), playedTo()));
        for (int track = 0; track < 6; track++) {
            values.add(eventsAlone(track));
        }
        values.add(bestStep(-1, 0, 9600));
        long d = 2671;
        for (int v : values) {
            d = d * 31 + v;
        }
        return d;
    }
}
