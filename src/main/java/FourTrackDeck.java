import java.util.Arrays;

/** A tape deck of four tracks; ../shared/DOC.md tells what each call promises. */
public final class FourTrackDeck {
    public static final int NONE = -1;

    private static final int DONE = 0;
    private static final int NOT_ALLOWED = 1;
    private static final int MISSING = 2;
    private static final int OUTSIDE = 3;
    private static final int BELOW_ZERO = 4;
    private static final int NO_ROOM = 5;
    private static final int NO_REEL_ON_DECK = 5;

    private static final int CHARS = 0;
    private static final int SHORTS = 1;
    private static final int LEVELS = 2;
    private static final int TRACKS = 4;

    private static final int IDLE = 0;
    private static final int PLAY = 1;
    private static final int MIX = 3;

    private static final int MOST_REELS = 8;
    private static final int MOST_PLACES = 64;
    private static final int MOST_TRACK_BITS = 15;
    private static final int MOST_OFFSET = 8;
    private static final int MOST_WINDING = 1000;
    private static final int MOST_TICKS = 100;
    private static final int MOST_AT_ONCE = 64;
    private static final int SHEET_SIDE = 16;
    private static final int GREATEST_LEVEL = 32768;
    private static final int FIRST_REEL_COUNTED = 10;

    private final Reel[] reels = new Reel[MOST_REELS];
    private int reelsMade = 0;
    private int onDeck = NONE;

    private int tapeAt = 0;
    private final int[] offsets = new int[TRACKS];
    private final int[] modes = new int[TRACKS];
    private final int[] meters = new int[TRACKS];
    private int sourceNumber = 0;
    private int sourceStep = 0;

    // The cells are made once at their greatest, so that a new sheet takes no more room.
    private final int[] cells = new int[SHEET_SIDE * SHEET_SIDE];
    private int sheetRows = NONE;
    private int sheetWidth = NONE;

    private int tripTrack = NONE;
    private int tripStatus = DONE;
    private int latestStatus = DONE;

    public FourTrackDeck() {
    }

    public int reel(int length, int there) {
        if (!isWithin(length, 1, MOST_PLACES) || !isWithin(there, 0, MOST_TRACK_BITS)) {
            return end(NOT_ALLOWED, NONE);
        }
        if (reelsMade >= reels.length) {
            return end(NO_ROOM, NONE);
        }
        int number = reelsMade;
        reels[number] = new Reel(length, there);
        reelsMade = number + 1;
        return end(DONE, number);
    }

    public int strip(int reel, int track) {
        Track stripped = trackOf(reel, track);
        if (stripped == null) {
            return end(NOT_ALLOWED, NONE);
        }
        int was = stripped.isThere ? 1 : 0;
        stripped.isThere = false;
        return end(DONE, was);
    }

    public int lay(int reel, int track) {
        Track laid = trackOf(reel, track);
        if (laid == null) {
            return end(NOT_ALLOWED, NONE);
        }
        int wasMissing = laid.isThere ? 0 : 1;
        laid.isThere = true;
        laid.wipe();
        return end(DONE, wasMissing);
    }

    public int thread(int reel) {
        if (reel != NONE && reelOf(reel) == null) {
            return end(NOT_ALLOWED, NONE);
        }
        int was = onDeck;
        onDeck = reel;
        return end(DONE, was);
    }

    public int head(int track, int offset) {
        if (!isTrack(track) || !isWithin(offset, -MOST_OFFSET, MOST_OFFSET)) {
            return end(NOT_ALLOWED, 0);
        }
        int was = offsets[track];
        offsets[track] = offset;
        return end(DONE, was);
    }

    public int arm(int track, int mode) {
        if (!isTrack(track) || !isWithin(mode, IDLE, MIX)) {
            return end(NOT_ALLOWED, 0);
        }
        int was = modes[track];
        modes[track] = mode;
        return end(DONE, was);
    }

    public int source(int s, int step) {
        int was = sourceNumber;
        sourceNumber = s;
        sourceStep = step;
        return end(DONE, was);
    }

    public int wind(int by) {
        if (!isWithin(by, -MOST_WINDING, MOST_WINDING)) {
            return end(NOT_ALLOWED, tapeAt);
        }
        tapeAt += by;
        return end(DONE, tapeAt);
    }

    public int read(int track) {
        Track under = trackOf(onDeck, track);
        if (under == null) {
            return end(whyNoneUnderHead(track), 0);
        }
        int place = placeOfHead(track);
        return end(under.faultAt(place), under.numberAt(place));
    }

    public int write(int track, int v) {
        Track under = trackOf(onDeck, track);
        if (under == null) {
            return end(whyNoneUnderHead(track), 0);
        }
        int place = placeOfHead(track);
        under.put(place, v);
        return end(under.faultAt(place), under.numberAt(place));
    }

    public int run(int ticks) {
        if (!isWithin(ticks, 1, MOST_TICKS)) {
            return end(NOT_ALLOWED, 0);
        }
        if (onDeck == NONE) {
            return end(NO_REEL_ON_DECK, 0);
        }
        tripTrack = NONE;
        tripStatus = DONE;
        for (int whole = 0; whole < ticks; whole++) {
            tick();
            if (tripStatus != DONE) {
                return end(tripStatus, whole);
            }
        }
        return end(DONE, ticks);
    }

    public int dub(int from, int fromTrack, int at, int n, int to, int toTrack) {
        Track origin = trackOf(from, fromTrack);
        Track target = trackOf(to, toTrack);
        if (origin == null || target == null || !isWithin(n, 0, MOST_AT_ONCE)) {
            return end(NOT_ALLOWED, 0);
        }
        for (int k = 0; k < n; k++) {
            int fault = firstFault(origin.faultAt(at + k), target.faultAt(tapeAt + k));
            if (fault != DONE) {
                return end(fault, k);
            }
            target.put(tapeAt + k, origin.numberAt(at + k));
        }
        return end(DONE, n);
    }

    public int turn(int track, int n) {
        if (!isWithin(n, 0, MOST_AT_ONCE)) {
            return end(NOT_ALLOWED, 0);
        }
        Track under = trackOf(onDeck, track);
        if (under == null) {
            return end(whyNoneUnderHead(track), 0);
        }
        int pairs = n / 2;
        int first = placeOfHead(track);
        int last = first + n - 1;
        for (int k = 0; k < pairs; k++) {
            int fault = firstFault(under.faultAt(first + k), under.faultAt(last - k));
            if (fault != DONE) {
                return end(fault, k);
            }
            under.exchange(first + k, last - k);
        }
        return end(DONE, pairs);
    }

    public int scan(int track, int v) {
        Track under = trackOf(onDeck, track);
        if (under == null) {
            return end(whyNoneUnderHead(track), NONE);
        }
        int first = placeOfHead(track);
        for (int k = 0; k < MOST_PLACES; k++) {
            int fault = under.faultAt(first + k);
            if (fault != DONE) {
                return end(fault, NONE);
            }
            if (under.numberAt(first + k) == v) {
                return end(DONE, k);
            }
        }
        // The longest track has been looked at whole: the next place is outside.
        return end(OUTSIDE, NONE);
    }

    public int sheet(int n, int m) {
        if (n > SHEET_SIDE || m > SHEET_SIDE) {
            return end(NOT_ALLOWED, NONE);
        }
        if (n < 0 || m < 0) {
            return end(BELOW_ZERO, NONE);
        }
        sheetRows = n;
        sheetWidth = m;
        Arrays.fill(cells, 0);
        return end(DONE, n * m);
    }

    public int cue(int row, int cell, int v) {
        int fault = faultOfCell(row, cell);
        if (fault != DONE) {
            return end(fault, 0);
        }
        int index = indexOfCell(row, cell);
        int had = cells[index];
        cells[index] = v;
        return end(DONE, had);
    }

    public int seek(int row, int cell) {
        int fault = faultOfCell(row, cell);
        if (fault != DONE) {
            return end(fault, tapeAt);
        }
        tapeAt = cells[indexOfCell(row, cell)];
        return end(DONE, tapeAt);
    }

    public int trip(int what) {
        switch (what) {
            case 0:
                return tripTrack;
            case 1:
                return tripStatus;
            default:
                return NONE;
        }
    }

    public int meter(int track) {
        return isTrack(track) ? meters[track] : 0;
    }

    public int count(int what) {
        switch (what) {
            case 0:
                return reelsMade;
            case 1:
                return onDeck;
            case 2:
                return tapeAt;
            case 3:
                return sourceNumber;
            case 4:
                return sheetRows;
            case 5:
                return sheetWidth;
            default:
                return tracksThere(what - FIRST_REEL_COUNTED);
        }
    }

    public int status() {
        return latestStatus;
    }

    private int end(int status, int answer) {
        latestStatus = status;
        return answer;
    }

    private static boolean isWithin(int v, int least, int greatest) {
        return v >= least && v <= greatest;
    }

    private static boolean isTrack(int track) {
        return isWithin(track, 0, TRACKS - 1);
    }

    private static int firstFault(int one, int other) {
        return one != DONE ? one : other;
    }

    private Reel reelOf(int number) {
        return number >= 0 && number < reels.length ? reels[number] : null;
    }

    private Track trackOf(int reel, int track) {
        Reel found = reelOf(reel);
        return found == null || !isTrack(track) ? null : found.tracks[track];
    }

    private int whyNoneUnderHead(int track) {
        return isTrack(track) ? NO_REEL_ON_DECK : NOT_ALLOWED;
    }

    private int placeOfHead(int track) {
        return isTrack(track) ? tapeAt + offsets[track] : tapeAt;
    }

    private void tick() {
        for (int track = 0; track < TRACKS; track++) {
            int fault = moveHead(track);
            if (fault != DONE) {
                tripTrack = track;
                tripStatus = fault;
                return;
            }
        }
        tapeAt++;
    }

    private int moveHead(int track) {
        int mode = modes[track];
        Track under = trackOf(onDeck, track);
        if (mode == IDLE || under == null) {
            return DONE;
        }
        int place = placeOfHead(track);
        int fault = under.faultAt(place);
        if (fault != DONE) {
            return fault;
        }
        int number = under.numberAt(place);
        if (mode == PLAY) {
            meters[track] += number;
            return DONE;
        }
        under.put(place, mode == MIX ? number + sourceNumber : sourceNumber);
        sourceNumber += sourceStep;
        return DONE;
    }

    private int faultOfCell(int row, int cell) {
        if (sheetRows == NONE) {
            return MISSING;
        }
        boolean isCell = row >= 0 && row < sheetRows && cell >= 0 && cell < sheetWidth;
        return isCell ? DONE : OUTSIDE;
    }

    private static int indexOfCell(int row, int cell) {
        return row * SHEET_SIDE + cell;
    }

    private int tracksThere(int reel) {
        Reel counted = reelOf(reel);
        return counted == null ? NONE : counted.bitsOfTracks();
    }

    private static final class Reel {
        private final Track[] tracks = new Track[TRACKS];

        private Reel(int length, int there) {
            for (int k = 0; k < TRACKS; k++) {
                tracks[k] = new Track(k, length, (there >> k & 1) == 1);
            }
        }

        private int bitsOfTracks() {
            int bits = 0;
            for (int k = 0; k < TRACKS; k++) {
                if (tracks[k].isThere) {
                    bits |= 1 << k;
                }
            }
            return bits;
        }
    }

    /** A missing track keeps its row, so that laying it again takes no more room. */
    private static final class Track {
        private final int kind;
        private final int[] numbers;
        private boolean isThere;

        private Track(int kind, int length, boolean isThere) {
            this.kind = kind;
            this.numbers = new int[length];
            this.isThere = isThere;
        }

        private void wipe() {
            Arrays.fill(numbers, 0);
        }

        private int faultAt(int place) {
            if (!isThere) {
                return MISSING;
            }
            return place >= 0 && place < numbers.length ? DONE : OUTSIDE;
        }

        private int numberAt(int place) {
            return faultAt(place) == DONE ? numbers[place] : 0;
        }

        private void put(int place, int v) {
            if (faultAt(place) == DONE) {
                numbers[place] = asTrackHasIt(v);
            }
        }

        private void exchange(int one, int other) {
            int number = numberAt(one);
            put(one, numberAt(other));
            put(other, number);
        }

        private int asTrackHasIt(int v) {
            switch (kind) {
                case CHARS:
                    return v & 0xFFFF;
                case SHORTS:
                    return (short) v;
                case LEVELS:
                    return Math.max(-GREATEST_LEVEL, Math.min(GREATEST_LEVEL, v));
                default:
                    return v & 1;
            }
        }
    }
}
