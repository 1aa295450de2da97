/** For each promise its ordinary inputs, its edges and its wrong inputs. */
public final class FourTrackDeckPromises {
    private static final int NONE = FourTrackDeck.NONE;
    private static final int MAX = Integer.MAX_VALUE;
    private static final int MIN = Integer.MIN_VALUE;
    private static final int[] NO_TRACKS = {-1, 4, MAX, MIN};

    private static int wrong = 0;
    private static String promise = "";

    private static void due(String call, int got, int want) {
        if (got != want) {
            wrong++;
            System.out.println(promise + ": " + call + " answered " + got + ", due is " + want);
        }
    }

    private static void due(FourTrackDeck x, String call, int got, int want, int status) {
        due(call, got, want);
        due("status() after " + call, x.status(), status);
    }

    /** A deck with one reel threaded that has all tracks. */
    private static FourTrackDeck deckWith(int length) {
        FourTrackDeck x = new FourTrackDeck();
        x.reel(length, 15);
        x.thread(0);
        return x;
    }

    /** Writes the numbers from place 0 on; the tape must stand at 0 and does so afterwards. */
    private static void fill(FourTrackDeck x, int track, int... numbers) {
        for (int v : numbers) {
            x.write(track, v);
            x.wind(1);
        }
        x.wind(-numbers.length);
    }

    private static void dueNumbers(FourTrackDeck x, int track, int... numbers) {
        for (int k = 0; k < numbers.length; k++) {
            due("place " + k + " of track " + track, x.read(track), numbers[k]);
            x.wind(1);
        }
        x.wind(-numbers.length);
    }

    /** Puts the tape at p, however far, by way of a sheet. */
    private static void goTo(FourTrackDeck x, int p) {
        x.sheet(1, 1);
        x.cue(0, 0, p);
        x.seek(0, 0);
    }

    private static void newObject() {
        promise = "1 new object";
        due("NONE", NONE, -1);
        FourTrackDeck x = new FourTrackDeck();
        due("status()", x.status(), 0);
        int[] counts = {0, NONE, 0, 0, NONE, NONE};
        for (int what = 0; what < counts.length; what++) {
            due("count(" + what + ")", x.count(what), counts[what]);
        }
        for (int what = 10; what <= 17; what++) {
            due("count(" + what + ")", x.count(what), NONE);
        }
        due("trip(0)", x.trip(0), NONE);
        due("trip(1)", x.trip(1), 0);
        for (int track = 0; track < 4; track++) {
            due("meter", x.meter(track), 0);
            due(x, "head", x.head(track, 1), 0, 0);
            due(x, "arm", x.arm(track, 1), 0, 0);
        }
        due(x, "source", x.source(1, 1), 0, 0);
        FourTrackDeck other = deckWith(1);
        due("another object's s", other.count(3), 0);
        other.arm(0, 2);
        due(other, "run(1)", other.run(1), 1, 0);
        due("the step is 0 at first", other.count(3), 0);
    }

    private static void reel() {
        promise = "2 reel";
        FourTrackDeck x = new FourTrackDeck();
        int[][] refused = {{0, 15}, {-1, 15}, {65, 15}, {MAX, 0}, {MIN, 0}, {1, -1}, {1, 16}, {64, MAX}, {64, MIN}};
        for (int[] r : refused) {
            due(x, "reel(" + r[0] + ", " + r[1] + ")", x.reel(r[0], r[1]), NONE, 1);
        }
        due("count(0)", x.count(0), 0);
        int[][] made = {{1, 0}, {64, 15}, {2, 1}, {3, 2}, {4, 4}, {5, 8}, {6, 9}, {7, 6}};
        for (int k = 0; k < made.length; k++) {
            due(x, "reel", x.reel(made[k][0], made[k][1]), k, 0);
            due("count(0)", x.count(0), k + 1);
            due("tracks", x.count(10 + k), made[k][1]);
        }
        due(x, "a ninth reel", x.reel(1, 1), NONE, 5);
        due(x, "a ninth reel that may not be", x.reel(0, 1), NONE, 1);
        due("count(0)", x.count(0), 8);
        due("count(18)", x.count(18), NONE);
        due("the deck stays empty", x.count(1), NONE);
        x.thread(1);
        x.wind(63);
        due(x, "last place", x.write(0, 9), 9, 0);
        x.wind(1);
        due(x, "behind the last place", x.write(0, 9), 0, 3);
        FourTrackDeck y = deckWith(3);
        for (int track = 0; track < 4; track++) {
            dueNumbers(y, track, 0, 0, 0);
        }
    }

    private static void strip() {
        promise = "3 strip";
        FourTrackDeck x = new FourTrackDeck();
        due(x, "strip without reels", x.strip(0, 0), NONE, 1);
        x.reel(2, 13);
        due(x, "strip of one there", x.strip(0, 0), 1, 0);
        due("tracks", x.count(10), 12);
        due(x, "strip again", x.strip(0, 0), 0, 0);
        due(x, "strip of one missing", x.strip(0, 1), 0, 0);
        for (int track : NO_TRACKS) {
            due(x, "strip of no track", x.strip(0, track), NONE, 1);
        }
        for (int reel : new int[] {-1, 1, 7, 8, MAX, MIN}) {
            due(x, "strip of no reel", x.strip(reel, 2), NONE, 1);
        }
        due("tracks", x.count(10), 12);
        x.strip(0, 2);
        x.strip(0, 3);
        due("tracks", x.count(10), 0);
    }

    private static void lay() {
        promise = "4 lay";
        FourTrackDeck x = new FourTrackDeck();
        due(x, "lay without reels", x.lay(0, 0), NONE, 1);
        x.reel(2, 1);
        x.thread(0);
        fill(x, 0, 5, 6);
        for (int track : NO_TRACKS) {
            due(x, "lay of no track", x.lay(0, track), NONE, 1);
        }
        for (int reel : new int[] {-1, 1, 7, 8, MAX, MIN}) {
            due(x, "lay on no reel", x.lay(reel, 0), NONE, 1);
        }
        dueNumbers(x, 0, 5, 6);
        due(x, "lay of one there", x.lay(0, 0), 0, 0);
        dueNumbers(x, 0, 0, 0);
        due(x, "lay of one missing", x.lay(0, 2), 1, 0);
        due("tracks", x.count(10), 5);
        dueNumbers(x, 2, 0, 0);
        fill(x, 2, 7, 8);
        x.strip(0, 2);
        due(x, "lay of one stripped", x.lay(0, 2), 1, 0);
        dueNumbers(x, 2, 0, 0);
        x.wind(2);
        due(x, "its length stays", x.read(2), 0, 3);
    }

    private static void thread() {
        promise = "5 thread";
        FourTrackDeck x = new FourTrackDeck();
        due(x, "thread(0) without reels", x.thread(0), NONE, 1);
        due(x, "thread(NONE)", x.thread(NONE), NONE, 0);
        x.reel(1, 15);
        x.reel(1, 15);
        due(x, "thread(1)", x.thread(1), NONE, 0);
        due("count(1)", x.count(1), 1);
        x.write(0, 3);
        for (int reel : new int[] {2, -2, 8, MAX, MIN}) {
            due(x, "thread of no reel", x.thread(reel), NONE, 1);
            due("count(1)", x.count(1), 1);
        }
        due(x, "thread(0)", x.thread(0), 1, 0);
        due(x, "read", x.read(0), 0, 0);
        due(x, "thread(1)", x.thread(1), 0, 0);
        due(x, "read", x.read(0), 3, 0);
        due(x, "thread(NONE)", x.thread(NONE), 1, 0);
        due("count(1)", x.count(1), NONE);
        due(x, "read", x.read(0), 0, 5);
    }

    private static void head() {
        promise = "6 head";
        FourTrackDeck x = deckWith(20);
        due(x, "head(1, 8)", x.head(1, 8), 0, 0);
        due(x, "head(1, -8)", x.head(1, -8), 8, 0);
        for (int offset : new int[] {9, -9, MAX, MIN}) {
            due(x, "head(1, offset)", x.head(1, offset), 0, 1);
        }
        for (int track : NO_TRACKS) {
            due(x, "head of no track", x.head(track, 1), 0, 1);
        }
        due(x, "head(1, 3)", x.head(1, 3), -8, 0);
        x.wind(2);
        x.write(1, 55);
        x.wind(3);
        x.head(1, 0);
        due(x, "the place was p + offset", x.read(1), 55, 0);
        due(x, "the other heads stayed", x.head(0, 0) + x.head(2, 0) + x.head(3, 0), 0, 0);
    }

    private static void arm() {
        promise = "7 arm";
        FourTrackDeck x = new FourTrackDeck();
        for (int mode = 0; mode <= 3; mode++) {
            due(x, "arm", x.arm(3, mode), Math.max(0, mode - 1), 0);
        }
        for (int mode : new int[] {-1, 4, MAX, MIN}) {
            due(x, "arm(3, mode)", x.arm(3, mode), 0, 1);
        }
        for (int track : NO_TRACKS) {
            due(x, "arm of no track", x.arm(track, 1), 0, 1);
        }
        due(x, "arm(3, 0)", x.arm(3, 0), 3, 0);
        due(x, "the other heads stayed", x.arm(0, 0) + x.arm(1, 0) + x.arm(2, 0), 0, 0);
    }

    private static void source() {
        promise = "8 source";
        FourTrackDeck x = deckWith(3);
        due(x, "source", x.source(MAX, 2), 0, 0);
        due("count(3)", x.count(3), MAX);
        x.arm(0, 2);
        x.run(1);
        due("s wraps", x.count(3), MIN + 1);
        due(x, "source", x.source(MIN, MIN), MIN + 1, 0);
        x.wind(5000);
        due(x, "source mends the status", x.source(-7, 0), MIN, 0);
        x.run(1);
        due("step 0", x.count(3), -7);
    }

    private static void wind() {
        promise = "9 wind";
        FourTrackDeck x = new FourTrackDeck();
        due(x, "wind(1000)", x.wind(1000), 1000, 0);
        due(x, "wind(-1000)", x.wind(-1000), 0, 0);
        due(x, "wind(-1000)", x.wind(-1000), -1000, 0);
        for (int by : new int[] {1001, -1001, MAX, MIN}) {
            due(x, "wind(" + by + ")", x.wind(by), -1000, 1);
        }
        due("count(2)", x.count(2), -1000);
        goTo(x, MAX);
        due(x, "wind wraps", x.wind(3), MIN + 2, 0);
        due(x, "wind wraps back", x.wind(-4), MAX - 1, 0);
    }

    private static void read() {
        promise = "10 read";
        FourTrackDeck x = new FourTrackDeck();
        due(x, "read without a reel", x.read(0), 0, 5);
        for (int track : NO_TRACKS) {
            due(x, "1 goes before 5", x.read(track), 0, 1);
        }
        x.reel(2, 7);
        due(x, "read with none threaded", x.read(3), 0, 5);
        x.thread(0);
        fill(x, 1, -3, 4);
        dueNumbers(x, 1, -3, 4);
        x.wind(2);
        due(x, "read outside", x.read(1), 0, 3);
        due(x, "2 goes before 3", x.read(3), 0, 2);
        x.wind(-3);
        due(x, "read outside", x.read(1), 0, 3);
        for (int track : NO_TRACKS) {
            due(x, "read of no track", x.read(track), 0, 1);
        }
        goTo(x, MIN);
        x.head(1, -1);
        due(x, "the place wraps", x.read(1), 0, 3);
    }

    private static void write() {
        promise = "11 write";
        FourTrackDeck x = new FourTrackDeck();
        due(x, "write without a reel", x.write(0, 1), 0, 5);
        for (int track : NO_TRACKS) {
            due(x, "1 goes before 5", x.write(track, 1), 0, 1);
        }
        writeAsTracksHaveIt();
        FourTrackDeck y = new FourTrackDeck();
        y.reel(2, 7);
        y.thread(0);
        for (int p : new int[] {-1, 2, MAX, MIN}) {
            goTo(y, p);
            due(y, "write outside", y.write(1, 9), 0, 3);
            due(y, "2 goes before 3", y.write(3, 9), 0, 2);
        }
        goTo(y, 0);
        dueNumbers(y, 1, 0, 0);
        y.lay(0, 3);
        dueNumbers(y, 3, 0, 0);
    }

    private static void writeAsTracksHaveIt() {
        int[] told = {0, 1, -1, 2, -2, 32767, 32768, 32769, -32768, -32769, 65535, 65536, 65537, -65536, MAX, MIN};
        int[][] had = {
            {0, 1, 65535, 2, 65534, 32767, 32768, 32769, 32768, 32767, 65535, 0, 1, 0, 65535, 0},
            {0, 1, -1, 2, -2, 32767, -32768, -32767, -32768, 32767, -1, 0, 1, 0, -1, 0},
            {0, 1, -1, 2, -2, 32767, 32768, 32768, -32768, -32768, 32768, 32768, 32768, -32768, 32768, -32768},
            {0, 1, 1, 0, 0, 1, 0, 1, 0, 1, 1, 0, 1, 0, 1, 0}};
        FourTrackDeck x = deckWith(1);
        for (int track = 0; track < 4; track++) {
            for (int k = 0; k < told.length; k++) {
                due(x, "write(" + track + ", " + told[k] + ")", x.write(track, told[k]), had[track][k], 0);
                due(x, "read(" + track + ")", x.read(track), had[track][k], 0);
            }
        }
    }

    private static void run() {
        promise = "12 run";
        runRefused();
        runByModes();
        runThatTrips();
        runMixed();
    }

    private static void runRefused() {
        FourTrackDeck x = new FourTrackDeck();
        due(x, "run without a reel", x.run(1), 0, 5);
        for (int ticks : new int[] {0, -1, 101, MAX, MIN}) {
            due(x, "1 goes before 5", x.run(ticks), 0, 1);
        }
        x.reel(1, 0);
        x.thread(0);
        due(x, "idle heads need no track", x.run(100), 100, 0);
        due("count(2)", x.count(2), 100);
        for (int ticks : new int[] {0, -1, 101, MAX, MIN}) {
            due(x, "run(" + ticks + ")", x.run(ticks), 0, 1);
        }
        due("count(2)", x.count(2), 100);
        goTo(x, MAX);
        due(x, "p wraps", x.run(2), 2, 0);
        due("count(2)", x.count(2), MIN + 1);
    }

    private static void runByModes() {
        FourTrackDeck x = deckWith(4);
        fill(x, 1, 10, 20, 30, 40);
        x.source(100, 7);
        x.arm(0, 2);
        x.arm(1, 1);
        x.arm(2, 2);
        x.head(1, 1);
        due(x, "run(3)", x.run(3), 3, 0);
        due("count(2)", x.count(2), 3);
        due("count(3)", x.count(3), 142);
        due("meter(1)", x.meter(1), 90);
        due("meter(0)", x.meter(0), 0);
        due("trip(0)", x.trip(0), NONE);
        x.wind(-3);
        x.head(1, 0);
        dueNumbers(x, 0, 100, 114, 128, 0);
        dueNumbers(x, 1, 10, 20, 30, 40);
        dueNumbers(x, 2, 107, 121, 135, 0);
        dueNumbers(x, 3, 0, 0, 0, 0);
    }

    private static void runThatTrips() {
        FourTrackDeck x = deckWith(4);
        x.source(1, 1);
        for (int track = 0; track < 4; track++) {
            x.arm(track, 2);
        }
        x.head(2, 2);
        due(x, "run(100)", x.run(100), 2, 3);
        due("trip(0)", x.trip(0), 2);
        due("trip(1)", x.trip(1), 3);
        due("p of a broken tick", x.count(2), 2);
        due("s behind two heads more", x.count(3), 11);
        x.wind(-2);
        x.head(2, 0);
        dueNumbers(x, 0, 1, 5, 9, 0);
        dueNumbers(x, 1, 2, 6, 10, 0);
        dueNumbers(x, 2, 0, 0, 3, 7);
        dueNumbers(x, 3, 0, 0, 0, 0);
        x.strip(0, 3);
        x.arm(3, 1);
        due(x, "run(1)", x.run(1), 0, 2);
        due("trip(0)", x.trip(0), 3);
        due("s behind three heads", x.count(3), 14);
        goTo(x, -5);
        x.arm(0, 0);
        x.arm(1, 0);
        x.arm(2, 0);
        due(x, "2 goes before 3", x.run(1), 0, 2);
        x.lay(0, 3);
        due(x, "a place before the first", x.run(1), 0, 3);
        x.arm(3, 3);
        due(x, "a place before the first", x.run(1), 0, 3);
        due("s of a head that fails", x.count(3), 14);
    }

    private static void runMixed() {
        FourTrackDeck x = deckWith(1);
        for (int track = 0; track < 4; track++) {
            x.write(track, 40001);
            x.arm(track, 3);
        }
        x.source(30001, 1);
        due(x, "run(1)", x.run(1), 1, 0);
        due("count(3)", x.count(3), 30005);
        x.wind(-1);
        dueNumbers(x, 0, 40001 + 30001 - 65536);
        dueNumbers(x, 1, 40001 + 30002 - 65536);
        dueNumbers(x, 2, 32768);
        dueNumbers(x, 3, 1);
        x.source(MAX, 0);
        x.run(1);
        x.wind(-1);
        dueNumbers(x, 2, -32768);
        dueNumbers(x, 3, 0);
    }

    private static void dub() {
        promise = "13 dub";
        dubRefused();
        dubFails();
        dubAmongTracks();
        dubOntoItself();
    }

    private static void dubRefused() {
        FourTrackDeck x = new FourTrackDeck();
        due(x, "dub without reels", x.dub(0, 0, 0, 0, 0, 0), 0, 1);
        x.reel(3, 15);
        x.reel(3, 0);
        for (int bad : new int[] {-1, 2, 8, MAX, MIN}) {
            due(x, "dub from no reel", x.dub(bad, 0, 0, 1, 0, 0), 0, 1);
            due(x, "dub to no reel", x.dub(0, 0, 0, 1, bad, 0), 0, 1);
        }
        for (int bad : NO_TRACKS) {
            due(x, "dub from no track", x.dub(0, bad, 0, 1, 0, 0), 0, 1);
            due(x, "dub to no track", x.dub(0, 0, 0, 1, 0, bad), 0, 1);
        }
        for (int bad : new int[] {-1, 65, MAX, MIN}) {
            due(x, "dub of n numbers", x.dub(0, 0, 0, bad, 0, 1), 0, 1);
            due(x, "1 goes before 2", x.dub(1, 0, 0, bad, 1, 1), 0, 1);
        }
        due(x, "none of missing tracks", x.dub(1, 0, 9, 0, 1, 1), 0, 0);
        due(x, "no reel need be threaded", x.dub(0, 0, 0, 3, 0, 1), 3, 0);
    }

    private static void dubFails() {
        FourTrackDeck x = deckWith(3);
        x.reel(2, 3);
        fill(x, 0, 7, 8, 9);
        due(x, "load behind the end", x.dub(0, 0, 1, 64, 0, 1), 2, 3);
        dueNumbers(x, 1, 8, 9, 0);
        due(x, "store behind the end", x.dub(0, 0, 0, 3, 1, 0), 2, 3);
        due(x, "load before the first", x.dub(0, 0, -1, 3, 0, 1), 0, 3);
        due(x, "load from a missing one", x.dub(1, 2, 0, 1, 0, 0), 0, 2);
        due(x, "load from a missing one outside", x.dub(1, 2, 9, 1, 0, 0), 0, 2);
        due(x, "store on a missing one", x.dub(0, 0, 0, 1, 1, 2), 0, 2);
        due(x, "loading goes before storing", x.dub(0, 0, 3, 1, 1, 2), 0, 3);
        x.wind(-1);
        due(x, "store before the first", x.dub(0, 0, 0, 3, 0, 1), 0, 3);
        due(x, "loading goes before storing", x.dub(1, 2, 0, 1, 0, 0), 0, 2);
        for (int far : new int[] {MAX, MIN}) {
            goTo(x, far);
            due(x, "store far away", x.dub(0, 0, 0, 3, 0, 1), 0, 3);
            goTo(x, 0);
            due(x, "load far away", x.dub(0, 0, far, 64, 0, 1), 0, 3);
        }
        dueNumbers(x, 1, 8, 9, 0);
    }

    private static void dubAmongTracks() {
        FourTrackDeck x = deckWith(4);
        x.reel(64, 15);
        x.head(0, 5);
        x.head(2, -5);
        x.wind(5);
        x.write(2, 32768);
        x.wind(1);
        x.write(2, -32768);
        x.wind(1);
        x.write(2, -1);
        x.head(0, 0);
        x.head(2, 0);
        x.wind(-6);
        for (int track = 0; track < 4; track++) {
            due(x, "no offset counts", x.dub(0, 2, 0, 3, 1, track), 3, 0);
        }
        x.thread(1);
        x.wind(-1);
        dueNumbers(x, 0, 0, 32768, 32768, 65535, 0);
        dueNumbers(x, 1, 0, -32768, -32768, -1, 0);
        dueNumbers(x, 2, 0, 32768, -32768, -1, 0);
        dueNumbers(x, 3, 0, 0, 0, 1, 0);
        due(x, "a whole track", x.dub(1, 0, 0, 64, 1, 2), 64, 0);
        dueNumbers(x, 2, 0, 32768, 32768, 32768, 0);
    }

    private static void dubOntoItself() {
        FourTrackDeck x = deckWith(4);
        fill(x, 0, 1, 2, 3, 4);
        x.wind(1);
        due(x, "dub onto itself, ahead", x.dub(0, 0, 0, 3, 0, 0), 3, 0);
        x.wind(-1);
        dueNumbers(x, 0, 1, 1, 1, 1);
        fill(x, 0, 1, 2, 3, 4);
        due(x, "dub onto itself, back", x.dub(0, 0, 1, 3, 0, 0), 3, 0);
        dueNumbers(x, 0, 2, 3, 4, 4);
        due("p stays", x.count(2), 0);
    }

    private static void turn() {
        promise = "14 turn";
        FourTrackDeck x = new FourTrackDeck();
        due(x, "turn without a reel", x.turn(0, 0), 0, 5);
        for (int bad : NO_TRACKS) {
            due(x, "1 goes before 5", x.turn(bad, 2), 0, 1);
        }
        for (int bad : new int[] {-1, 65, MAX, MIN}) {
            due(x, "1 goes before 5", x.turn(0, bad), 0, 1);
        }
        x.reel(5, 7);
        x.thread(0);
        due(x, "turn of no pair", x.turn(3, 0), 0, 0);
        due(x, "turn of no pair", x.turn(3, 1), 0, 0);
        due(x, "turn of a missing one", x.turn(3, 2), 0, 2);
        due(x, "2 goes before 3", x.turn(3, 64), 0, 2);
        fill(x, 2, 1, -2, 3, -4, 5);
        due(x, "turn(2, 5)", x.turn(2, 5), 2, 0);
        dueNumbers(x, 2, 5, -4, 3, -2, 1);
        due(x, "turn(2, 4)", x.turn(2, 4), 2, 0);
        dueNumbers(x, 2, -2, 3, -4, 5, 1);
        due(x, "turn(2, 6)", x.turn(2, 6), 0, 3);
        x.head(2, 2);
        due(x, "turn from the head", x.turn(2, 3), 1, 0);
        due(x, "turn beyond the end", x.turn(2, 4), 0, 3);
        x.head(2, -1);
        due(x, "turn before the first", x.turn(2, 3), 0, 3);
        due(x, "turn of no pair outside", x.turn(2, 1), 0, 0);
        x.head(2, 0);
        dueNumbers(x, 2, -2, 3, 1, 5, -4);
        due("p stays", x.count(2), 0);
        goTo(x, MAX);
        due(x, "turn far away", x.turn(2, 64), 0, 3);
        FourTrackDeck y = deckWith(64);
        y.write(0, 65535);
        due(y, "turn(0, 64)", y.turn(0, 64), 32, 0);
        y.wind(63);
        due(y, "the last place", y.read(0), 65535, 0);
    }

    private static void scan() {
        promise = "15 scan";
        FourTrackDeck x = new FourTrackDeck();
        due(x, "scan without a reel", x.scan(0, 0), NONE, 5);
        for (int bad : NO_TRACKS) {
            due(x, "1 goes before 5", x.scan(bad, 0), NONE, 1);
        }
        x.reel(4, 7);
        x.thread(0);
        due(x, "scan of a missing one", x.scan(3, 0), NONE, 2);
        fill(x, 0, 65535, 6, 6, 0);
        due(x, "scan(0, 65535)", x.scan(0, 65535), 0, 0);
        due(x, "scan(0, 6)", x.scan(0, 6), 1, 0);
        due(x, "scan(0, 0)", x.scan(0, 0), 3, 0);
        due(x, "v is taken as it is", x.scan(0, -1), NONE, 3);
        due(x, "v is taken as it is", x.scan(0, 65542), NONE, 3);
        x.head(0, 2);
        due(x, "scan from the head", x.scan(0, 6), 0, 0);
        due(x, "scan from the head", x.scan(0, 65535), NONE, 3);
        x.head(0, -1);
        due(x, "scan before the first", x.scan(0, 6), NONE, 3);
        x.head(0, 4);
        due(x, "scan behind the last", x.scan(0, 0), NONE, 3);
        due("p stays", x.count(2), 0);
        fill(x, 1, 1, 2, 3, 4);
        due(x, "no 0 stands outside", x.scan(1, 0), NONE, 3);
        x.write(2, 40000);
        due(x, "the greatest level", x.scan(2, 32768), 0, 0);
        due(x, "beyond the greatest level", x.scan(2, 40000), NONE, 3);
        FourTrackDeck y = deckWith(64);
        due(y, "scan of the longest", y.scan(1, 1), NONE, 3);
        y.wind(63);
        y.write(1, 1);
        y.wind(-63);
        due(y, "scan up to the last", y.scan(1, 1), 63, 0);
    }

    private static void sheet() {
        promise = "16 sheet";
        FourTrackDeck x = new FourTrackDeck();
        due(x, "sheet(2, 3)", x.sheet(2, 3), 6, 0);
        x.cue(1, 2, 9);
        int[][] refused = {{17, 1, 1}, {1, 17, 1}, {-1, 17, 1}, {17, -1, 1}, {MAX, MIN, 1}, {MIN, MAX, 1},
            {-1, 0, 4}, {0, -1, 4}, {-1, -1, 4}, {MIN, 16, 4}, {16, MIN, 4}, {MIN, MIN, 4}};
        for (int[] r : refused) {
            due(x, "sheet(" + r[0] + ", " + r[1] + ")", x.sheet(r[0], r[1]), NONE, r[2]);
            due("count(4)", x.count(4), 2);
            due("count(5)", x.count(5), 3);
        }
        due(x, "the sheet is as it was", x.seek(1, 2), 9, 0);
        due(x, "sheet(2, 3) again", x.sheet(2, 3), 6, 0);
        due(x, "all cells are 0", x.seek(1, 2), 0, 0);
        due(x, "sheet(16, 16)", x.sheet(16, 16), 256, 0);
        x.cue(15, 15, 4);
        due(x, "sheet(0, 16)", x.sheet(0, 16), 0, 0);
        due("count(4)", x.count(4), 0);
        due("count(5)", x.count(5), 16);
        due(x, "no row has a cell", x.cue(0, 0, 1), 0, 3);
        due(x, "sheet(16, 0)", x.sheet(16, 0), 0, 0);
        due("count(4)", x.count(4), 16);
        due("count(5)", x.count(5), 0);
        due(x, "no row has a cell", x.cue(0, 0, 1), 0, 3);
        due(x, "sheet(16, 16)", x.sheet(16, 16), 256, 0);
        due(x, "all cells are 0", x.cue(15, 15, 1), 0, 0);
    }

    private static void cue() {
        promise = "17 cue";
        FourTrackDeck x = new FourTrackDeck();
        due(x, "cue without a sheet", x.cue(0, 0, 1), 0, 2);
        due(x, "2 goes before 3", x.cue(-1, 99, 1), 0, 2);
        x.sheet(2, 3);
        int[][] none = {{2, 0}, {0, 3}, {-1, 0}, {0, -1}, {MAX, 0}, {0, MAX}, {MIN, 0}, {0, MIN}, {1, -1}};
        for (int[] c : none) {
            due(x, "cue(" + c[0] + ", " + c[1] + ", 5)", x.cue(c[0], c[1], 5), 0, 3);
        }
        for (int k = 0; k < 6; k++) {
            due(x, "cue", x.cue(k / 3, k % 3, MIN + k), 0, 0);
        }
        for (int k = 0; k < 6; k++) {
            due(x, "cue", x.cue(k / 3, k % 3, MAX - k), MIN + k, 0);
        }
        x.sheet(16, 16);
        for (int k = 0; k < 256; k += 3) {
            due("cue", x.cue(k / 16, k % 16, k + 1), 0);
        }
        for (int k = 0; k < 256; k++) {
            due("cue", x.cue(k / 16, k % 16, 0), k % 3 == 0 ? k + 1 : 0);
        }
    }

    private static void seek() {
        promise = "18 seek";
        FourTrackDeck x = new FourTrackDeck();
        x.wind(5);
        due(x, "seek without a sheet", x.seek(0, 0), 5, 2);
        due(x, "2 goes before 3", x.seek(-1, 99), 5, 2);
        x.sheet(2, 3);
        int[][] none = {{2, 0}, {0, 3}, {-1, 0}, {0, -1}, {MAX, 0}, {0, MAX}, {MIN, 0}, {0, MIN}, {1, -1}};
        for (int[] c : none) {
            due(x, "seek(" + c[0] + ", " + c[1] + ")", x.seek(c[0], c[1]), 5, 3);
        }
        due("count(2)", x.count(2), 5);
        x.cue(0, 2, MIN);
        x.cue(1, 0, -6);
        due(x, "seek(0, 2)", x.seek(0, 2), MIN, 0);
        due("count(2)", x.count(2), MIN);
        due(x, "seek(1, 0)", x.seek(1, 0), -6, 0);
        due(x, "seek(0, 0)", x.seek(0, 0), 0, 0);
    }

    private static void trip() {
        promise = "19 trip";
        FourTrackDeck x = deckWith(1);
        x.arm(2, 1);
        x.run(2);
        due("trip(0)", x.trip(0), 2);
        due("trip(1)", x.trip(1), 3);
        for (int what : new int[] {-1, 2, MAX, MIN}) {
            due("trip(" + what + ")", x.trip(what), NONE);
        }
        x.run(0);
        due("status()", x.status(), 1);
        x.thread(NONE);
        x.run(1);
        due("status()", x.status(), 5);
        due("trip(0) behind a refused run", x.trip(0), 2);
        due("trip(1) behind a refused run", x.trip(1), 3);
        due("trip leaves the status", x.status(), 5);
        x.read(9);
        due("trip(0) behind other calls", x.trip(0), 2);
        x.thread(0);
        x.arm(2, 0);
        x.run(1);
        due("trip(0) behind whole ticks", x.trip(0), NONE);
        due("trip(1) behind whole ticks", x.trip(1), 0);
        x.strip(0, 0);
        x.arm(0, 2);
        x.run(1);
        due("trip(0)", x.trip(0), 0);
        due("trip(1)", x.trip(1), 2);
    }

    private static void meter() {
        promise = "20 meter";
        FourTrackDeck x = deckWith(2);
        x.reel(2, 15);
        int[][] numbers = {{65535, 1}, {-5, -6}, {32768, -1}, {1, 1}};
        int[] sums = {65536, -11, 32767, 2};
        for (int track = 0; track < 4; track++) {
            fill(x, track, numbers[track]);
            x.arm(track, 1);
        }
        x.run(2);
        for (int track = 0; track < 4; track++) {
            due("meter(" + track + ")", x.meter(track), sums[track]);
        }
        x.run(1);
        for (int track : NO_TRACKS) {
            due("meter of no track", x.meter(track), 0);
        }
        due("meter leaves the status", x.status(), 3);
        due("a failing head adds nothing", x.meter(0), 65536);
        x.thread(1);
        x.wind(-2);
        x.write(1, 1000);
        x.run(1);
        due("meters outlast the reel", x.meter(1), 989);
    }

    private static void count() {
        promise = "21 count";
        FourTrackDeck x = new FourTrackDeck();
        x.reel(1, 9);
        x.reel(1, 0);
        x.thread(1);
        x.wind(-7);
        x.source(12, 1);
        x.sheet(3, 5);
        x.read(9);
        int[] counts = {2, 1, -7, 12, 3, 5, NONE, NONE, NONE, NONE, 9, 0};
        for (int what = 0; what < counts.length; what++) {
            due("count(" + what + ")", x.count(what), counts[what]);
        }
        for (int what = 12; what <= 20; what++) {
            due("count(" + what + ")", x.count(what), NONE);
        }
        for (int what : new int[] {-1, MAX, MIN, MIN + 9}) {
            due("count(" + what + ")", x.count(what), NONE);
        }
        due("count leaves the status", x.status(), 1);
        x.lay(1, 1);
        x.strip(0, 0);
        due("count(10)", x.count(10), 8);
        due("count(11)", x.count(11), 2);
    }

    private static void status() {
        promise = "22 status";
        FourTrackDeck x = new FourTrackDeck();
        x.read(0);
        due("status()", x.status(), 5);
        due("status() again", x.status(), 5);
        x.trip(0);
        x.trip(9);
        x.meter(0);
        x.meter(9);
        x.count(0);
        x.count(99);
        due("status() behind those that leave it", x.status(), 5);
        x.arm(0, 0);
        due("status() behind one that was done", x.status(), 0);
        x.sheet(-1, 0);
        due("status()", x.status(), 4);
        x.cue(0, 0, 0);
        due("status()", x.status(), 2);
    }

    public static void main(String[] args) {
        newObject();
        reel();
        strip();
        lay();
        thread();
        head();
        arm();
        source();
        wind();
        read();
        write();
        run();
        dub();
        turn();
        scan();
        sheet();
        cue();
        seek();
        trip();
        meter();
        count();
        status();
        System.out.println(wrong == 0 ? "all answers are as due" : wrong + " answers are not as due");
        if (wrong != 0) {
            System.exit(1);
        }
    }
}
