/** A sequencer for music. */
public final class OvertureDesk {
    private static final int TICKS = 9600;
    private static final int FAR_TICKS = 100000;
    private static final int FAR_BARS = 1000;
    private static final int TRACKS = 6;
    private static final int ALL_TRACKS = -1;
    private static final int MOST_NOTES = 60;
    private static final int MOST_LENGTH = 960;
    private static final int MOST_PITCH = 127;
    private static final int MOST_FORCE = 127;
    private static final int MOST_PERCENTS = 400;
    private static final int MOST_STEP = 384;
    private static final int MOST_SWING = 75;
    private static final int MOST_SHIFT = 24;
    private static final int MOST_DELAY = 48;
    private static final int MOST_MARKS = 11;
    private static final int FIRST_SPEED = 1200;
    private static final int LEAST_SPEED = 200;
    private static final int MOST_SPEED = 3000;
    private static final int MOMENTS_BY_SPEED = 62500;
    private static final int METER_BARS = 100;
    private static final int MOST_BEATS = 16;
    private static final int WHOLE_TICKS = 384;
    private static final int MOST_TIMES = 8;
    private static final int MOST_CHANGES = 20;
    private static final int MOST_EVENTS = 2 * MOST_NOTES * MOST_TIMES;
    private static final int NOTE_FACTS = 5;
    private static final int EVENT_FACTS = 4;
    private static final int TONES = 12;
    private static final int[] STEPS_TO_TRY = {96, 48, 32, 24, 16, 12, 8, 6};

    private final Song song = new Song();
    private final History history = new History();
    private final NoteList clipboard = new NoteList();
    private final Rendering rendering = new Rendering();
    private boolean isGroupOpen;

    /** Creates a desk without notes. */
    public OvertureDesk() {
        isGroupOpen = false;
    }

    // ---- notes

    /** Writes a note; returns its place (of several just alike the last one). */
    public int write(int track, int tick, int length, int pitch, int force)
            throws IllegalArgumentException, IllegalStateException {
        if (!isTrack(track) || !isTick(tick) || !isWithin(length, 1, MOST_LENGTH)) {
            throw new IllegalArgumentException("no such track, tick or length");
        }
        if (!isWithin(pitch, 0, MOST_PITCH) || !isWithin(force, 1, MOST_FORCE)) {
            throw new IllegalArgumentException("no such pitch or force");
        }
        if (song.notes.room() < 1) {
            throw new IllegalStateException("no room for a note");
        }
        int place = song.notes.insert(NoteCode.of(track, tick, length, pitch, force));
        settle();
        return place;
    }

    /** Removes the note at a place; returns how many there are then. */
    public int remove(int place) throws IndexOutOfBoundsException {
        if (!song.notes.has(place)) {
            throw new IndexOutOfBoundsException("no note at this place");
        }
        song.notes.drop(place);
        settle();
        return song.notes.size();
    }

    /** Splits a note in two at a tick; returns how many notes there are then. */
    public int split(int place, int tick)
            throws IndexOutOfBoundsException, IllegalArgumentException, IllegalStateException {
        if (!song.notes.has(place)) {
            throw new IndexOutOfBoundsException("no note at this place");
        }
        long code = song.notes.codeAt(place);
        int start = NoteCode.start(code);
        int end = NoteCode.end(code);
        if (tick <= start || tick >= end || !isTick(tick)) {
            throw new IllegalArgumentException("the note can not be split at this tick");
        }
        if (song.notes.room() < 1) {
            throw new IllegalStateException("no room for a note");
        }
        song.notes.drop(place);
        song.notes.insert(NoteCode.withLength(code, tick - start));
        song.notes.insert(NoteCode.withLength(NoteCode.withStart(code, tick), end - tick));
        settle();
        return song.notes.size();
    }

    /** Shifts the pitches of all notes in a range; returns how many they are. */
    public int transpose(int track, int from, int to, int by)
            throws IllegalArgumentException, IllegalStateException {
        if (!isRange(track, from, to) || !isWithin(by, -MOST_PITCH, MOST_PITCH)) {
            throw new IllegalArgumentException("no such range or interval");
        }
        if (!canTranspose(track, from, to, by)) {
            throw new IllegalStateException("a pitch would not be 0 to 127");
        }
        int found = 0;
        for (int place = 0; place < song.notes.size(); place++) {
            long code = song.notes.codeAt(place);
            if (NoteCode.isIn(code, track, from, to)) {
                found++;
                song.notes.put(place, NoteCode.withPitch(code, NoteCode.pitch(code) + by));
            }
        }
        song.notes.sort();
        settle();
        return found;
    }

    /** Multiplies the forces of all notes in a range by percents; returns how many notes they are. */
    public int weigh(int track, int from, int to, int percents) throws IllegalArgumentException {
        if (!isRange(track, from, to) || !isWithin(percents, 0, MOST_PERCENTS)) {
            throw new IllegalArgumentException("no such range or percents");
        }
        int found = 0;
        for (int place = 0; place < song.notes.size(); place++) {
            long code = song.notes.codeAt(place);
            if (NoteCode.isIn(code, track, from, to)) {
                found++;
                int force = NoteCode.force(code) * percents / 100;
                song.notes.put(place, NoteCode.withForce(code, Math.max(1, Math.min(MOST_FORCE, force))));
            }
        }
        song.notes.sort();
        settle();
        return found;
    }

    /** Draws the beginnings of all notes in a range to a grid; returns how many begin elsewhere then. */
    public int quantise(int track, int from, int to, int step, int swing, int strength)
            throws IllegalArgumentException {
        if (!isRange(track, from, to) || !isWithin(step, 1, MOST_STEP)) {
            throw new IllegalArgumentException("no such range or step");
        }
        if (!isWithin(swing, 0, MOST_SWING) || !isWithin(strength, 0, 100)) {
            throw new IllegalArgumentException("no such swing or strength");
        }
        int moved = 0;
        for (int place = 0; place < song.notes.size(); place++) {
            long code = song.notes.codeAt(place);
            int start = NoteCode.start(code);
            int drawn = drawnStart(start, step, swing, strength);
            if (NoteCode.isIn(code, track, from, to) && drawn != start) {
                moved++;
                song.notes.put(place, NoteCode.withStart(code, drawn));
            }
        }
        song.notes.sort();
        settle();
        return moved;
    }

    /** Copies all notes in a range to the clipboard; returns how many they are. */
    public int copy(int track, int from, int to) throws IllegalArgumentException {
        if (!isRange(track, from, to)) {
            throw new IllegalArgumentException("no such range");
        }
        clipboard.clear();
        for (int place = 0; place < song.notes.size(); place++) {
            long code = song.notes.codeAt(place);
            if (NoteCode.isIn(code, track, from, to)) {
                clipboard.insert(NoteCode.withStart(code, NoteCode.start(code) - from));
            }
        }
        return clipboard.size();
    }

    /** Pastes the clipboard behind a tick; returns how many notes were pasted. */
    public int paste(int tick) throws IllegalArgumentException, IllegalStateException {
        if (!isTick(tick)) {
            throw new IllegalArgumentException("no such tick");
        }
        int fitting = 0;
        for (int place = 0; place < clipboard.size(); place++) {
            if (isTick(tick + NoteCode.start(clipboard.codeAt(place)))) {
                fitting++;
            }
        }
        if (song.notes.room() < fitting) {
            throw new IllegalStateException("no room for the notes");
        }
        for (int place = 0; place < clipboard.size(); place++) {
            long code = clipboard.codeAt(place);
            int start = tick + NoteCode.start(code);
            if (isTick(start)) {
                song.notes.insert(NoteCode.withStart(code, start));
            }
        }
        settle();
        return fitting;
    }

    /** Returns how many notes there are. */
    public int notes() {
        return song.notes.size();
    }

    /** Returns of the note at a place: 0 its track, 1 beginning, 2 length, 3 pitch, 4 force. */
    public int note(int place, int what) throws IndexOutOfBoundsException, IllegalArgumentException {
        if (!song.notes.has(place)) {
            throw new IndexOutOfBoundsException("no note at this place");
        }
        if (!isWithin(what, 0, NOTE_FACTS - 1)) {
            throw new IllegalArgumentException("a note tells 0 to 4");
        }
        return NoteCode.fact(song.notes.codeAt(place), what);
    }

    // ---- tracks, how fast, bars, the loop

    /** Sets how a track is played from now on; returns its shift before. */
    public int setTrack(int track, boolean isSilent, boolean isAlone, int shift, int delay)
            throws IndexOutOfBoundsException, IllegalArgumentException {
        if (!isTrack(track)) {
            throw new IndexOutOfBoundsException("no such track");
        }
        if (!isWithin(shift, -MOST_SHIFT, MOST_SHIFT) || !isWithin(delay, -MOST_DELAY, MOST_DELAY)) {
            throw new IllegalArgumentException("no such shift or delay");
        }
        int before = song.tracks.shiftOf(track);
        song.tracks.put(track, isSilent, isAlone, shift, delay);
        settle();
        return before;
    }

    /** Sets which speed begins at a tick (0: none any more); returns how many speeds there are then. */
    public int setSpeed(int tick, int speed) throws IllegalArgumentException, IllegalStateException {
        if (!isTick(tick) || speed != 0 && !isWithin(speed, LEAST_SPEED, MOST_SPEED)) {
            throw new IllegalArgumentException("no such tick or speed");
        }
        Marks speeds = song.speeds.marks;
        if (speed == 0 ? !speeds.canDrop(tick) : !speeds.canPut(tick)) {
            throw new IllegalStateException("the speeds can not be changed so");
        }
        if (speed == 0) {
            speeds.drop(tick);
        } else {
            speeds.put(tick, speed, 0);
        }
        settle();
        return speeds.size();
    }

    /** Sets which meter begins with a bar (n 0: none any more); returns how many meters there are then. */
    public int setMeter(int bar, int n, int d) throws IllegalArgumentException, IllegalStateException {
        if (!isWithin(bar, 0, METER_BARS - 1) || !isWithin(n, 0, MOST_BEATS)) {
            throw new IllegalArgumentException("no such bar or count of beats");
        }
        if (n > 0 && d != 2 && d != 4 && d != 8 && d != 16) {
            throw new IllegalArgumentException("no such beat");
        }
        Marks meters = song.meters.marks;
        if (n == 0 ? !meters.canDrop(bar) : !meters.canPut(bar)) {
            throw new IllegalStateException("the meters can not be changed so");
        }
        if (n == 0) {
            meters.drop(bar);
        } else {
            meters.put(bar, n, d);
        }
        settle();
        return meters.size();
    }

    /** Sets the loop (times 0: none any more); returns how often one went through it before. */
    public int setLoop(int from, int to, int times) throws IllegalArgumentException {
        if (!isStretch(from, to) || !isWithin(times, 0, MOST_TIMES)) {
            throw new IllegalArgumentException("no such stretch or times");
        }
        int before = song.loop.times;
        song.loop.put(from, to, times);
        settle();
        return before;
    }

    // ---- taking back

    /** Opens a group; returns how many changes can be taken back. */
    public int openGroup() throws IllegalStateException {
        if (isGroupOpen) {
            throw new IllegalStateException("a group is open");
        }
        isGroupOpen = true;
        return history.behind;
    }

    /** Closes the group; returns whether it is a change. */
    public boolean closeGroup() throws IllegalStateException {
        if (!isGroupOpen) {
            throw new IllegalStateException("no group is open");
        }
        isGroupOpen = false;
        return history.keep(song);
    }

    /** Takes back the latest change; returns how many can be taken back still. */
    public int undo() throws IllegalStateException {
        if (isGroupOpen || history.behind < 1) {
            throw new IllegalStateException("nothing can be taken back");
        }
        history.stepBack(song);
        return history.behind;
    }

    /** Does again what was taken back last; returns how many can be done again still. */
    public int redo() throws IllegalStateException {
        if (isGroupOpen || history.ahead < 1) {
            throw new IllegalStateException("nothing can be done again");
        }
        history.stepAhead(song);
        return history.ahead;
    }

    /** Returns how many changes can be taken back. */
    public int undos() {
        return history.behind;
    }

    /** Returns how many changes can be done again. */
    public int redos() {
        return history.ahead;
    }

    // ---- when and where

    /** Returns the time of a tick. */
    public int timeOf(int tick) throws IllegalArgumentException {
        if (!isFarTick(tick)) {
            throw new IllegalArgumentException("no such tick");
        }
        return song.speeds.timeAt(tick);
    }

    /** Returns the greatest tick whose time is not above this one. */
    public int tickOf(int time) throws IllegalArgumentException {
        if (time < 0) {
            throw new IllegalArgumentException("no such time");
        }
        return song.speeds.tickAt(time);
    }

    /** Returns the bar in which a tick is. */
    public int barOf(int tick) throws IllegalArgumentException {
        if (!isFarTick(tick)) {
            throw new IllegalArgumentException("no such tick");
        }
        return song.meters.barAt(tick);
    }

    /** Returns in which beat of its bar a tick is. */
    public int beatOf(int tick) throws IllegalArgumentException {
        if (!isFarTick(tick)) {
            throw new IllegalArgumentException("no such tick");
        }
        return song.meters.beatAt(tick);
    }

    /** Returns the tick at which a bar begins. */
    public int tickOfBar(int bar) throws IllegalArgumentException {
        if (!isWithin(bar, 0, FAR_BARS - 1)) {
            throw new IllegalArgumentException("no such bar");
        }
        return song.meters.startOfBar(bar);
    }

    // ---- what is written, what is played

    /** Returns the set of the tones that are written at a tick. */
    public int chordAt(int tick) throws IllegalArgumentException {
        if (!isTick(tick)) {
            throw new IllegalArgumentException("no such tick");
        }
        int chord = 0;
        for (int place = 0; place < song.notes.size(); place++) {
            long code = song.notes.codeAt(place);
            if (NoteCode.start(code) <= tick && tick < NoteCode.end(code)) {
                chord |= 1 << NoteCode.pitch(code) % TONES;
            }
        }
        return chord;
    }

    /** Returns how many pairs of notes of one track and pitch lie at some tick both. */
    public int clashes() {
        return song.notes.countClashes();
    }

    /** Returns how many events there are. */
    public int events() {
        rendering.play(song);
        return rendering.size();
    }

    /** Returns of an event: 0 its tick, 1 the track, 2 the pitch, 3 the force (0 of an off). */
    public int event(int event, int what) throws IndexOutOfBoundsException, IllegalArgumentException {
        rendering.play(song);
        if (event < 0 || event >= rendering.size()) {
            throw new IndexOutOfBoundsException("no such event");
        }
        if (!isWithin(what, 0, EVENT_FACTS - 1)) {
            throw new IllegalArgumentException("an event tells 0 to 3");
        }
        rendering.sort();
        return EventCode.fact(rendering.codeAt(event), what);
    }

    /** Returns how many notes are played that lie at a tick. */
    public int sounding(int tick) throws IllegalArgumentException {
        if (!isFarTick(tick)) {
            throw new IllegalArgumentException("no such tick");
        }
        rendering.play(song);
        return rendering.countAt(tick);
    }

    /** Returns the greatest sounding() of any tick. */
    public int most() {
        rendering.play(song);
        rendering.sort();
        return rendering.greatestCount();
    }

    /** Returns the tick of the last event; 0 without any. */
    public int playedTo() {
        rendering.play(song);
        return rendering.lastTick();
    }

    /** Returns the mean of the forces of the notes that are played; 0 without any. */
    public double meanForce() {
        rendering.play(song);
        return rendering.meanOfForces();
    }

    // ---- what would be (nothing is changed)

    /** Returns how many notes quantise() would move, with strength 100 and without swing. */
    public int wouldMove(int track, int from, int to, int step) throws IllegalArgumentException {
        if (!isRange(track, from, to) || !isWithin(step, 1, MOST_STEP)) {
            throw new IllegalArgumentException("no such range or step");
        }
        return countOffGrid(track, from, to, step);
    }

    /** Returns how many events there would be, if this track alone was heard. */
    public int eventsAlone(int track) throws IndexOutOfBoundsException {
        if (!isTrack(track)) {
            throw new IndexOutOfBoundsException("no such track");
        }
        rendering.playTrack(song, track);
        return rendering.size();
    }

    /** Returns the step that goes best with the notes in a range. */
    public int bestStep(int track, int from, int to) throws IllegalArgumentException {
        if (!isRange(track, from, to)) {
            throw new IllegalArgumentException("no such range");
        }
        return fittingStep(track, from, to);
    }

    /** Computes a checksum of all that is told. */
    public long digest() {
        long sum = addNotes(2671);
        sum = add(add(sum, history.behind), history.ahead);
        sum = add(sum, song.speeds.timeAt(9599));
        sum = add(sum, song.speeds.tickAt(1000000));
        sum = add(sum, song.meters.barAt(9599));
        sum = add(sum, song.meters.beatAt(1000));
        sum = add(sum, song.meters.startOfBar(7));
        sum = add(sum, song.notes.countClashes());
        rendering.play(song);
        rendering.sort();
        sum = addEvents(sum);
        for (int track = 0; track < TRACKS; track++) {
            rendering.playTrack(song, track);
            sum = add(sum, rendering.size());
        }
        return add(sum, fittingStep(ALL_TRACKS, 0, TICKS));
    }

    private static long add(long sum, int value) {
        return sum * 31 + value;
    }

    private long addNotes(long before) {
        long sum = add(before, song.notes.size());
        for (int place = 0; place < song.notes.size(); place++) {
            for (int what = 0; what < NOTE_FACTS; what++) {
                sum = add(sum, NoteCode.fact(song.notes.codeAt(place), what));
            }
        }
        return sum;
    }

    private long addEvents(long before) {
        long sum = add(before, rendering.size());
        for (int place = 0; place < rendering.size(); place++) {
            for (int what = 0; what < EVENT_FACTS; what++) {
                sum = add(sum, EventCode.fact(rendering.codeAt(place), what));
            }
        }
        return add(add(sum, rendering.greatestCount()), rendering.lastTick());
    }

    // While a group is open no change is made: the history then still ends with the song
    // as it was opened, so that closing it can compare with the same entry.
    private void settle() {
        if (!isGroupOpen) {
            history.keep(song);
        }
    }

    private boolean canTranspose(int track, int from, int to, int by) {
        for (int place = 0; place < song.notes.size(); place++) {
            long code = song.notes.codeAt(place);
            if (NoteCode.isIn(code, track, from, to)
                    && !isWithin(NoteCode.pitch(code) + by, 0, MOST_PITCH)) {
                return false;
            }
        }
        return true;
    }

    private int countOffGrid(int track, int from, int to, int step) {
        int count = 0;
        for (int place = 0; place < song.notes.size(); place++) {
            long code = song.notes.codeAt(place);
            int start = NoteCode.start(code);
            if (NoteCode.isIn(code, track, from, to) && drawnStart(start, step, 0, 100) != start) {
                count++;
            }
        }
        return count;
    }

    private int fittingStep(int track, int from, int to) {
        int best = 0;
        int least = MOST_NOTES + 1;
        for (int i = 0; i < STEPS_TO_TRY.length; i++) {
            int count = countOffGrid(track, from, to, STEPS_TO_TRY[i]);
            if (count < least) {
                least = count;
                best = STEPS_TO_TRY[i];
            }
        }
        return best;
    }

    private static int drawnStart(int start, int step, int swing, int strength) {
        return start + (nearestLine(start, step, swing) - start) * strength / 100;
    }

    // A line swings by less than a step, so that the nearest one is never further
    // away than the neighbours of the multiple at or ahead of the start.
    private static int nearestLine(int start, int step, int swing) {
        if (step < 1) {
            return start;
        }
        int near = start / step;
        int best = start;
        int least = TICKS;
        for (int number = near - 1; number <= near + 1; number++) {
            int late = (number & 1) == 1 ? step * swing / 100 : 0;
            int line = number * step + late;
            int distance = Math.abs(line - start);
            if (isTick(line) && distance < least) {
                least = distance;
                best = line;
            }
        }
        return best;
    }

    private static boolean isWithin(int value, int least, int most) {
        return value >= least && value <= most;
    }

    private static boolean isTrack(int track) {
        return isWithin(track, 0, TRACKS - 1);
    }

    private static boolean isTick(int tick) {
        return isWithin(tick, 0, TICKS - 1);
    }

    private static boolean isFarTick(int tick) {
        return isWithin(tick, 0, FAR_TICKS - 1);
    }

    private static boolean isStretch(int from, int to) {
        return isTick(from) && to > from && to <= TICKS;
    }

    private static boolean isRange(int track, int from, int to) {
        return isWithin(track, ALL_TRACKS, TRACKS - 1) && isStretch(from, to);
    }

    // All rows are read and written through these four, so that the index is looked at in one place.
    private static int intAt(int[] row, int place) {
        return row != null && place >= 0 && place < row.length ? row[place] : 0;
    }

    private static void putInt(int[] row, int place, int value) {
        if (row != null && place >= 0 && place < row.length) {
            row[place] = value;
        }
    }

    private static long longAt(long[] row, int place) {
        return row != null && place >= 0 && place < row.length ? row[place] : 0;
    }

    private static void putLong(long[] row, int place, long value) {
        if (row != null && place >= 0 && place < row.length) {
            row[place] = value;
        }
    }

    /**
     * A note as one number: track, beginning, pitch, length and force from the highest bits down,
     * so that the order of the numbers is the order of the places.
     */
    private static final class NoteCode {
        static long of(int track, int start, int length, int pitch, int force) {
            return (long) track << 38 | (long) start << 24 | (long) pitch << 17 | (long) length << 7 | force;
        }

        static int track(long code) {
            return (int) (code >> 38) & 7;
        }

        static int start(long code) {
            return (int) (code >> 24) & 16383;
        }

        static int pitch(long code) {
            return (int) (code >> 17) & 127;
        }

        static int length(long code) {
            return (int) (code >> 7) & 1023;
        }

        static int force(long code) {
            return (int) code & 127;
        }

        static int end(long code) {
            return start(code) + length(code);
        }

        static long withStart(long code, int start) {
            return of(track(code), start, length(code), pitch(code), force(code));
        }

        static long withLength(long code, int length) {
            return of(track(code), start(code), length, pitch(code), force(code));
        }

        static long withPitch(long code, int pitch) {
            return of(track(code), start(code), length(code), pitch, force(code));
        }

        static long withForce(long code, int force) {
            return of(track(code), start(code), length(code), pitch(code), force);
        }

        static boolean isIn(long code, int track, int from, int to) {
            return (track == ALL_TRACKS || track == track(code)) && start(code) >= from && start(code) < to;
        }

        static boolean isClash(long one, long other) {
            return track(one) == track(other) && pitch(one) == pitch(other)
                    && start(one) < end(other) && start(other) < end(one);
        }

        static int fact(long code, int what) {
            switch (what) {
                case 0:
                    return track(code);
                case 1:
                    return start(code);
                case 2:
                    return length(code);
                case 3:
                    return pitch(code);
                default:
                    return force(code);
            }
        }
    }

    /**
     * An event as one number: tick, on or off, track, pitch and the force of its note from the
     * highest bits down, so that the order of the numbers is the order of the events.
     */
    private static final class EventCode {
        static long of(int tick, boolean isOn, int track, int pitch, int force) {
            return (long) tick << 18 | (isOn ? 1L : 0L) << 17 | (long) track << 14 | (long) pitch << 7 | force;
        }

        static int tick(long code) {
            return (int) (code >> 18);
        }

        static boolean isOn(long code) {
            return (code >> 17 & 1) == 1;
        }

        static int force(long code) {
            return (int) code & 127;
        }

        static int fact(long code, int what) {
            switch (what) {
                case 0:
                    return tick(code);
                case 1:
                    return (int) (code >> 14) & 7;
                case 2:
                    return (int) (code >> 7) & 127;
                default:
                    return isOn(code) ? force(code) : 0;
            }
        }
    }

    /** Notes, by their places. */
    private static final class NoteList {
        private final long[] codes = new long[MOST_NOTES];
        private int count;

        int size() {
            return count;
        }

        int room() {
            return codes.length - count;
        }

        boolean has(int place) {
            return place >= 0 && place < count;
        }

        long codeAt(int place) {
            return longAt(codes, place);
        }

        // Who puts several in this way sorts behind it: till then the places are not in order.
        void put(int place, long code) {
            putLong(codes, place, code);
        }

        int insert(long code) {
            if (room() < 1) {
                return -1;
            }
            put(count, code);
            count++;
            return sink(count - 1);
        }

        void drop(int place) {
            for (int i = place; i < count - 1; i++) {
                put(i, codeAt(i + 1));
            }
            count = Math.max(0, count - 1);
        }

        void clear() {
            count = 0;
        }

        void sort() {
            for (int place = 1; place < count; place++) {
                sink(place);
            }
        }

        // Stops behind the notes that are just alike: the new one is the last of them.
        private int sink(int place) {
            long code = codeAt(place);
            int open = place;
            while (open > 0 && codeAt(open - 1) > code) {
                put(open, codeAt(open - 1));
                open--;
            }
            put(open, code);
            return open;
        }

        int countClashes() {
            int clashes = 0;
            for (int one = 0; one < count; one++) {
                for (int other = one + 1; other < count; other++) {
                    if (NoteCode.isClash(codeAt(one), codeAt(other))) {
                        clashes++;
                    }
                }
            }
            return clashes;
        }

        void takeFrom(NoteList other) {
            count = other.count;
            for (int place = 0; place < count; place++) {
                put(place, other.codeAt(place));
            }
        }

        boolean isLike(NoteList other) {
            if (count != other.count) {
                return false;
            }
            for (int place = 0; place < count; place++) {
                if (codeAt(place) != other.codeAt(place)) {
                    return false;
                }
            }
            return true;
        }
    }

    /** What begins where (speeds at ticks, meters with bars), in order; one always begins at 0. */
    private static final class Marks {
        private final int[] places = new int[MOST_MARKS];
        private final int[] firsts = new int[MOST_MARKS];
        private final int[] seconds = new int[MOST_MARKS];
        private int count;

        Marks(int first, int second) {
            putAll(0, 0, first, second);
            count = 1;
        }

        private void putAll(int i, int place, int first, int second) {
            putInt(places, i, place);
            putInt(firsts, i, first);
            putInt(seconds, i, second);
        }

        private void move(int from, int to) {
            putAll(to, placeAt(from), firstAt(from), secondAt(from));
        }

        int size() {
            return count;
        }

        int placeAt(int i) {
            return intAt(places, i);
        }

        int firstAt(int i) {
            return intAt(firsts, i);
        }

        int secondAt(int i) {
            return intAt(seconds, i);
        }

        int lastUpTo(int place) {
            int last = 0;
            for (int i = 0; i < count; i++) {
                if (placeAt(i) <= place) {
                    last = i;
                }
            }
            return last;
        }

        private boolean beginsAt(int place) {
            return placeAt(lastUpTo(place)) == place;
        }

        boolean canDrop(int place) {
            return place > 0 && beginsAt(place);
        }

        boolean canPut(int place) {
            return count < MOST_MARKS || beginsAt(place);
        }

        void drop(int place) {
            if (!canDrop(place)) {
                return;
            }
            for (int i = lastUpTo(place); i < count - 1; i++) {
                move(i + 1, i);
            }
            count--;
        }

        void put(int place, int first, int second) {
            if (!canPut(place)) {
                return;
            }
            int last = lastUpTo(place);
            if (placeAt(last) != place) {
                last++;
                for (int i = count; i > last; i--) {
                    move(i - 1, i);
                }
                count++;
            }
            putAll(last, place, first, second);
        }

        void takeFrom(Marks other) {
            count = other.count;
            for (int i = 0; i < count; i++) {
                putAll(i, other.placeAt(i), other.firstAt(i), other.secondAt(i));
            }
        }

        boolean isLike(Marks other) {
            if (count != other.count) {
                return false;
            }
            for (int i = 0; i < count; i++) {
                if (placeAt(i) != other.placeAt(i) || firstAt(i) != other.firstAt(i)
                        || secondAt(i) != other.secondAt(i)) {
                    return false;
                }
            }
            return true;
        }
    }

    /** How fast it goes from where on. */
    private static final class SpeedMap {
        final Marks marks = new Marks(FIRST_SPEED, 0);

        int timeAt(int tick) {
            long time = 0;
            for (int i = 0; i < marks.size(); i++) {
                int from = marks.placeAt(i);
                int to = i + 1 < marks.size() ? Math.min(tick, marks.placeAt(i + 1)) : tick;
                int speed = marks.firstAt(i);
                if (from < to && speed > 0) {
                    time += (long) (to - from) * MOMENTS_BY_SPEED / speed;
                }
            }
            return (int) time;
        }

        int tickAt(int time) {
            int tick = 0;
            for (int power = 16; power >= 0; power--) {
                int later = tick + (1 << power);
                if (later < FAR_TICKS && timeAt(later) <= time) {
                    tick = later;
                }
            }
            return tick;
        }
    }

    /** The bars from where on. */
    private static final class MeterMap {
        final Marks marks = new Marks(4, 4);

        private int beatLength(int i) {
            int d = marks.secondAt(i);
            return d > 0 ? Math.max(1, WHOLE_TICKS / d) : 1;
        }

        private int barLength(int i) {
            return Math.max(1, marks.firstAt(i)) * beatLength(i);
        }

        private int startOf(int meter) {
            int start = 0;
            for (int i = 0; i < meter; i++) {
                start += (marks.placeAt(i + 1) - marks.placeAt(i)) * barLength(i);
            }
            return start;
        }

        private int meterAt(int tick) {
            int start = 0;
            int meter = 0;
            for (int i = 1; i < marks.size(); i++) {
                start += (marks.placeAt(i) - marks.placeAt(i - 1)) * barLength(i - 1);
                if (start <= tick) {
                    meter = i;
                }
            }
            return meter;
        }

        int barAt(int tick) {
            int meter = meterAt(tick);
            int length = barLength(meter);
            int bars = length > 0 ? (tick - startOf(meter)) / length : 0;
            return marks.placeAt(meter) + bars;
        }

        int beatAt(int tick) {
            int meter = meterAt(tick);
            int bar = barLength(meter);
            int beat = beatLength(meter);
            return bar > 0 && beat > 0 ? (tick - startOf(meter)) % bar / beat : 0;
        }

        int startOfBar(int bar) {
            int meter = marks.lastUpTo(bar);
            return startOf(meter) + (bar - marks.placeAt(meter)) * barLength(meter);
        }
    }

    /** How the tracks are played. */
    private static final class TrackSet {
        private static final int SILENT = 1;
        private static final int ALONE = 2;
        private final int[] marks = new int[TRACKS];
        private final int[] shifts = new int[TRACKS];
        private final int[] delays = new int[TRACKS];

        void put(int track, boolean isSilent, boolean isAlone, int shift, int delay) {
            putInt(marks, track, (isSilent ? SILENT : 0) | (isAlone ? ALONE : 0));
            putInt(shifts, track, shift);
            putInt(delays, track, delay);
        }

        int shiftOf(int track) {
            return intAt(shifts, track);
        }

        int delayOf(int track) {
            return intAt(delays, track);
        }

        private boolean isMarked(int track, int mark) {
            return (intAt(marks, track) & mark) != 0;
        }

        private boolean isAnyAlone() {
            for (int track = 0; track < TRACKS; track++) {
                if (isMarked(track, ALONE)) {
                    return true;
                }
            }
            return false;
        }

        boolean isHeard(int track) {
            return !isMarked(track, SILENT) && (isMarked(track, ALONE) || !isAnyAlone());
        }

        void takeFrom(TrackSet other) {
            for (int track = 0; track < TRACKS; track++) {
                putInt(marks, track, intAt(other.marks, track));
                putInt(shifts, track, other.shiftOf(track));
                putInt(delays, track, other.delayOf(track));
            }
        }

        boolean isLike(TrackSet other) {
            for (int track = 0; track < TRACKS; track++) {
                if (intAt(marks, track) != intAt(other.marks, track)
                        || shiftOf(track) != other.shiftOf(track) || delayOf(track) != other.delayOf(track)) {
                    return false;
                }
            }
            return true;
        }
    }

    /** The stretch that is gone through several times. */
    private static final class Loop {
        int from;
        int to;
        int times;

        // Without a loop its ends are kept as 0: two songs without one are alike.
        void put(int newFrom, int newTo, int newTimes) {
            from = newTimes == 0 ? 0 : newFrom;
            to = newTimes == 0 ? 0 : newTo;
            times = newTimes;
        }

        boolean isLike(Loop other) {
            return from == other.from && to == other.to && times == other.times;
        }
    }

    /** All that can be taken back. */
    private static final class Song {
        final NoteList notes = new NoteList();
        final TrackSet tracks = new TrackSet();
        final SpeedMap speeds = new SpeedMap();
        final MeterMap meters = new MeterMap();
        final Loop loop = new Loop();

        void takeFrom(Song other) {
            notes.takeFrom(other.notes);
            tracks.takeFrom(other.tracks);
            speeds.marks.takeFrom(other.speeds.marks);
            meters.marks.takeFrom(other.meters.marks);
            loop.put(other.loop.from, other.loop.to, other.loop.times);
        }

        boolean isLike(Song other) {
            return notes.isLike(other.notes) && tracks.isLike(other.tracks)
                    && speeds.marks.isLike(other.speeds.marks)
                    && meters.marks.isLike(other.meters.marks) && loop.isLike(other.loop);
        }
    }

    /**
     * The songs behind the changes, in a ring: the one that holds now, as many behind it as can be
     * taken back, and as many ahead of it as can be done again.
     */
    private static final class History {
        private final Song[] songs = new Song[MOST_CHANGES + 1];
        private int now;
        int behind;
        int ahead;

        History() {
            for (int i = 0; i < songs.length; i++) {
                songs[i] = new Song();
            }
        }

        boolean keep(Song song) {
            Song latest = songAt(now);
            if (latest != null && latest.isLike(song)) {
                return false;
            }
            now = Math.floorMod(now + 1, MOST_CHANGES + 1);
            behind = Math.min(behind + 1, MOST_CHANGES);
            ahead = 0;
            Song place = songAt(now);
            if (place != null) {
                place.takeFrom(song);
            }
            return true;
        }

        void stepBack(Song song) {
            step(-1, song);
        }

        void stepAhead(Song song) {
            step(1, song);
        }

        private void step(int by, Song song) {
            now = Math.floorMod(now + by, MOST_CHANGES + 1);
            behind += by;
            ahead -= by;
            Song kept = songAt(now);
            if (kept != null) {
                song.takeFrom(kept);
            }
        }

        private Song songAt(int place) {
            return place >= 0 && place < songs.length ? songs[place] : null;
        }
    }

    /** What is played, event by event. */
    private static final class Rendering {
        private final long[] codes = new long[MOST_EVENTS];
        private final long[] spare = new long[MOST_EVENTS];
        private int count;

        int size() {
            return count;
        }

        long codeAt(int place) {
            return longAt(codes, place);
        }

        void play(Song song) {
            count = 0;
            for (int track = 0; track < TRACKS; track++) {
                if (song.tracks.isHeard(track)) {
                    addTrack(song, track);
                }
            }
        }

        void playTrack(Song song, int track) {
            count = 0;
            addTrack(song, track);
        }

        private void addTrack(Song song, int track) {
            for (int place = 0; place < song.notes.size(); place++) {
                long code = song.notes.codeAt(place);
                int pitch = NoteCode.pitch(code) + song.tracks.shiftOf(track);
                if (NoteCode.track(code) == track && isWithin(pitch, 0, MOST_PITCH)) {
                    addNote(NoteCode.withPitch(code, pitch), song.loop, song.tracks.delayOf(track));
                }
            }
        }

        private void addNote(long code, Loop loop, int delay) {
            int start = NoteCode.start(code);
            int length = NoteCode.length(code);
            int round = loop.to - loop.from;
            if (loop.times == 0 || start < loop.from) {
                addOnce(code, start + delay, length);
            } else if (start >= loop.to) {
                addOnce(code, start + (loop.times - 1) * round + delay, length);
            } else {
                for (int time = 0; time < loop.times; time++) {
                    addOnce(code, start + time * round + delay, Math.min(length, loop.to - start));
                }
            }
        }

        private void addOnce(long code, int delayed, int length) {
            int start = Math.max(0, delayed);
            addEvent(code, start, true);
            addEvent(code, start + length, false);
        }

        private void addEvent(long code, int tick, boolean isOn) {
            if (count < MOST_EVENTS) {
                putLong(codes, count, EventCode.of(tick, isOn, NoteCode.track(code),
                        NoteCode.pitch(code), NoteCode.force(code)));
                count++;
            }
        }

        // Merges ever longer sorted runs: there are up to 960 events, far more than notes.
        void sort() {
            for (int power = 0; power < 10; power++) {
                int run = 1 << power;
                for (int from = 0; from < count; from += 2 * run) {
                    merge(from, Math.min(from + run, count), Math.min(from + 2 * run, count));
                }
                for (int place = 0; place < count; place++) {
                    putLong(codes, place, longAt(spare, place));
                }
            }
        }

        private void merge(int from, int middle, int to) {
            int left = from;
            int right = middle;
            for (int place = from; place < to; place++) {
                if (left < middle && (right >= to || codeAt(left) <= codeAt(right))) {
                    putLong(spare, place, codeAt(left));
                    left++;
                } else {
                    putLong(spare, place, codeAt(right));
                    right++;
                }
            }
        }

        int countAt(int tick) {
            int sounding = 0;
            for (int place = 0; place < count; place++) {
                if (EventCode.tick(codeAt(place)) <= tick) {
                    sounding += EventCode.isOn(codeAt(place)) ? 1 : -1;
                }
            }
            return sounding;
        }

        // Counts rightly only when sorted: at one tick the offs must go ahead of the ons.
        int greatestCount() {
            int sounding = 0;
            int greatest = 0;
            for (int place = 0; place < count; place++) {
                sounding += EventCode.isOn(codeAt(place)) ? 1 : -1;
                greatest = Math.max(greatest, sounding);
            }
            return greatest;
        }

        int lastTick() {
            int last = 0;
            for (int place = 0; place < count; place++) {
                last = Math.max(last, EventCode.tick(codeAt(place)));
            }
            return last;
        }

        double meanOfForces() {
            int sum = 0;
            int notes = 0;
            for (int place = 0; place < count; place++) {
                if (EventCode.isOn(codeAt(place))) {
                    sum += EventCode.force(codeAt(place));
                    notes++;
                }
            }
            return notes > 0 ? (double) sum / (double) notes : 0.0;
        }
    }
}
