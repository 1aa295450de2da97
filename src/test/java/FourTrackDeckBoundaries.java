import java.util.ArrayList;
import java.util.List;
import java.util.Map;
import java.util.Set;
import java.util.TreeMap;
import java.util.TreeSet;
import java.util.regex.Matcher;
import java.util.regex.Pattern;

/**
 * Each sentence of the document that names a boundary case, with a test of its own. A call is
 * told as text; what it changed is found by looking at all that can be seen of a deck with the
 * call and of one without it, so that a call that changes more than is told is found too.
 */
public final class FourTrackDeckBoundaries {
    private static final int NONE = FourTrackDeck.NONE;
    private static final int MAX = Integer.MAX_VALUE;
    private static final int MIN = Integer.MIN_VALUE;
    private static final int MOST_CALLS = 512;
    private static final Pattern CALL = Pattern.compile("(\\w+)\\(([^)]*)\\)");
    private static final Pattern ROW = Pattern.compile("(\\w+\\([^)]*\\)) = (\\S+)(?: : (\\d))?");
    private static final Set<String> ASKING = Set.of("trip", "meter", "count", "status");

    /**
     * Three reels, of LENGTHS 3, 4 and 1, the last without TRACKS; the first is threaded; p is 1,
     * so that the HEADS stand at 2, 0, 1 and 0. Its STATUS is 4, which few calls have.
     */
    private static final String PLAYED = "reel(3, 15) reel(4, 5) reel(1, 0)"
        + " thread(1) arm(0, 2) arm(2, 2) source(11, 1) run(4) arm(0, 0) arm(2, 0) wind(-4)"
        + " thread(0) write(0, 65535) write(1, -32768) write(2, 32768) write(3, 1) wind(1)"
        + " write(0, 7) write(1, 8) write(2, -32768) wind(1)"
        + " write(0, 9) write(1, -3) write(2, 5) write(3, 1)"
        + " arm(1, 1) arm(3, 1) run(2) wind(-2)"
        + " head(0, 1) head(1, -1) head(3, -1) arm(0, 1) arm(1, 2) arm(2, 3) arm(3, 0) source(100, 7)"
        + " sheet(2, 3) cue(0, 0, 5) cue(1, 2, -6) sheet(-1, 0) ";
    private static final String EMPTY_DECK = PLAYED + "thread(NONE) ";
    private static final String SEVEN_REELS = PLAYED + "reel(1, 1) reel(1, 2) reel(1, 4) reel(1, 8) ";
    private static final String EIGHT_REELS = SEVEN_REELS + "reel(2, 1) ";
    private static final String NO_SHEET = "reel(1, 15) thread(0) wind(5) ";
    /** SHORTS 1 to 64 on the first reel, CHARS on the second. */
    private static final String LONG = "reel(64, 2) reel(64, 1) thread(0) arm(1, 2) source(1, 1) run(64) wind(-64) ";
    /** All four HEADS record 10, 11, 12 and 13 at place 0. */
    private static final String RECORDING = "reel(3, 15) thread(0) source(10, 1)"
        + " arm(0, 2) arm(1, 2) arm(2, 2) arm(3, 2) ";

    private static int wrong = 0;
    private static String sentence = "";

    /** One object, with its calls counted: what it answers after 512 is free. */
    private static final class Used {
        private final FourTrackDeck deck = new FourTrackDeck();
        private int calls = 0;

        Used(String told) {
            for (Matcher m = CALL.matcher(told); m.find();) {
                tell(m.group());
            }
        }

        int tell(String told) {
            Matcher m = CALL.matcher(told);
            if (!m.matches()) {
                throw new IllegalArgumentException(told);
            }
            return call(m.group(1), numbers(m.group(2)));
        }

        int call(String name, int... a) {
            calls++;
            if (calls > MOST_CALLS) {
                throw new IllegalStateException(sentence + ": more calls than an object may have");
            }
            return switch (name) {
                case "reel" -> deck.reel(a[0], a[1]);
                case "strip" -> deck.strip(a[0], a[1]);
                case "lay" -> deck.lay(a[0], a[1]);
                case "thread" -> deck.thread(a[0]);
                case "head" -> deck.head(a[0], a[1]);
                case "arm" -> deck.arm(a[0], a[1]);
                case "source" -> deck.source(a[0], a[1]);
                case "wind" -> deck.wind(a[0]);
                case "read" -> deck.read(a[0]);
                case "write" -> deck.write(a[0], a[1]);
                case "run" -> deck.run(a[0]);
                case "dub" -> deck.dub(a[0], a[1], a[2], a[3], a[4], a[5]);
                case "turn" -> deck.turn(a[0], a[1]);
                case "scan" -> deck.scan(a[0], a[1]);
                case "sheet" -> deck.sheet(a[0], a[1]);
                case "cue" -> deck.cue(a[0], a[1], a[2]);
                case "seek" -> deck.seek(a[0], a[1]);
                case "trip" -> deck.trip(a[0]);
                case "meter" -> deck.meter(a[0]);
                case "count" -> deck.count(a[0]);
                case "status" -> deck.status();
                default -> throw new IllegalArgumentException(name);
            };
        }

        /** All that can be seen; the deck is of no use afterwards. */
        Map<String, String> look() {
            Map<String, String> seen = new TreeMap<>();
            seen.put("status", "" + call("status"));
            String[] counted = {"reels", "on deck", "p", "s", "rows", "cells"};
            for (int what = 0; what < counted.length; what++) {
                seen.put(counted[what], "" + call("count", what));
            }
            for (int r = 0; r < 8; r++) {
                seen.put("there " + r, "" + call("count", 10 + r));
            }
            seen.put("trip", call("trip", 0) + " " + call("trip", 1));
            List<Integer> meters = new ArrayList<>();
            List<Integer> offsets = new ArrayList<>();
            List<Integer> modes = new ArrayList<>();
            for (int track = 0; track < 4; track++) {
                meters.add(call("meter", track));
                offsets.add(call("head", track, 0));
                modes.add(call("arm", track, 0));
            }
            seen.put("meters", joined(meters));
            seen.put("offsets", joined(offsets));
            seen.put("modes", joined(modes));
            lookAtSheet(seen);
            lookAtReels(seen);
            seen.put("step", "" + stepOfSource());
            return seen;
        }

        private void lookAtSheet(Map<String, String> seen) {
            int rows = call("count", 4);
            int cells = call("count", 5);
            for (int r = 0; r < rows; r++) {
                List<Integer> row = new ArrayList<>();
                for (int c = 0; c < cells; c++) {
                    row.add(call("cue", r, c, 0));
                }
                seen.put("row " + r, joined(row));
            }
        }

        private void lookAtReels(Map<String, String> seen) {
            call("sheet", 1, 1);
            int reels = call("count", 0);
            for (int r = 0; r < reels; r++) {
                int there = call("count", 10 + r);
                call("thread", r);
                for (int track = 0; track < 4; track++) {
                    if ((there >> track & 1) == 1) {
                        seen.put("track " + r + "." + track, joined(numbersOf(track)));
                    }
                }
            }
        }

        private List<Integer> numbersOf(int track) {
            List<Integer> found = new ArrayList<>();
            call("seek", 0, 0);
            for (int v = call("read", track); call("status") == 0; v = call("read", track)) {
                found.add(v);
                call("wind", 1);
            }
            return found;
        }

        private int stepOfSource() {
            call("reel", 1, 1);
            call("thread", 0);
            call("lay", 0, 0);
            call("arm", 0, 2);
            call("seek", 0, 0);
            int before = call("count", 3);
            call("run", 1);
            return call("count", 3) - before;
        }
    }

    private static int number(String told) {
        return switch (told) {
            case "MAX" -> MAX;
            case "MIN" -> MIN;
            case "NONE" -> NONE;
            default -> Integer.parseInt(told);
        };
    }

    private static int[] numbers(String told) {
        if (told.isEmpty()) {
            return new int[0];
        }
        String[] parts = told.split(", ");
        int[] found = new int[parts.length];
        for (int k = 0; k < parts.length; k++) {
            found[k] = number(parts[k]);
        }
        return found;
    }

    private static String joined(List<Integer> numbers) {
        StringBuilder text = new StringBuilder();
        for (int v : numbers) {
            text.append(text.length() == 0 ? "" : " ").append(v);
        }
        return text.toString();
    }

    /** The numbers from the first to the last, by one. */
    private static String upTo(int first, int last) {
        List<Integer> found = new ArrayList<>();
        for (int v = first; v <= last; v++) {
            found.add(v);
        }
        return joined(found);
    }

    private static String times(int n, int v) {
        List<Integer> found = new ArrayList<>();
        for (int k = 0; k < n; k++) {
            found.add(v);
        }
        return joined(found);
    }

    /** Winds a deck that has a sheet to p, however far; its first cell is 5 then, its STATUS 4. */
    private static String at(int p) {
        return "cue(0, 0, " + p + ") seek(0, 0) cue(0, 0, 5) sheet(-1, 0) ";
    }

    private static void says(String where, String words) {
        sentence = where + ": \"" + words + "\"";
    }

    private static void wrong(String what) {
        wrong++;
        System.out.println(sentence + ": " + what);
    }

    private static void due(String what, int got, int want) {
        if (got != want) {
            wrong(what + " answered " + got + ", due is " + want);
        }
    }

    private static Set<String> changes(Map<String, String> before, Map<String, String> after) {
        Set<String> found = new TreeSet<>();
        for (Map.Entry<String, String> e : after.entrySet()) {
            if (!e.getValue().equals(before.get(e.getKey()))) {
                found.add(e.getKey() + "=" + e.getValue());
            }
        }
        for (String key : before.keySet()) {
            if (!after.containsKey(key)) {
                found.add(key + " gone");
            }
        }
        return found;
    }

    /** A call on a deck that is new: its answer, its STATUS, what it changes, and nothing else. */
    private static void ends(String deck, String call, int answer, int status, String... changed) {
        Map<String, String> before = new Used(deck).look();
        Used used = new Used(deck);
        due(call, used.tell(call), answer);
        due("status() after " + call, used.call("status"), status);
        Map<String, String> after = used.look();
        before.remove("status");
        after.remove("status");
        Set<String> want = new TreeSet<>(List.of(changed));
        Set<String> got = changes(before, after);
        if (!got.equals(want)) {
            wrong(call + " changed " + got + ", due is " + want);
        }
    }

    private static void done(String deck, String call, int answer, String... changed) {
        ends(deck, call, answer, 0, changed);
    }

    /** Calls that are done and change nothing, each on a deck of its own. */
    private static void unchanging(String deck, int answer, String... calls) {
        for (String call : calls) {
            ends(deck, call, answer, 0);
        }
    }

    /** Calls that are not done and change nothing, each on a deck of its own. */
    private static void refused(String deck, int answer, int status, String... calls) {
        for (String call : calls) {
            ends(deck, call, answer, status);
        }
    }

    /** A run of calls on one deck: "call = answer : STATUS"; STATUS 0 need not be told. */
    private static void answers(String deck, String... rows) {
        Used used = new Used(deck);
        for (String row : rows) {
            Matcher m = ROW.matcher(row);
            if (!m.matches()) {
                throw new IllegalArgumentException(row);
            }
            due(m.group(1), used.tell(m.group(1)), number(m.group(2)));
            boolean asks = ASKING.contains(row.substring(0, row.indexOf('(')));
            if (m.group(3) != null || !asks) {
                int status = m.group(3) == null ? 0 : number(m.group(3));
                due("status() after " + m.group(1), used.call("status"), status);
            }
        }
    }

    private static void looksLike(String deck, String... seen) {
        Set<String> want = new TreeSet<>(List.of(seen));
        Set<String> got = changes(new TreeMap<>(), new Used(deck).look());
        if (!got.equals(want)) {
            wrong("the deck is " + got + ", due is " + want);
        }
    }

    /** Each of these numbers, told to a TRACK, and how it has it. */
    private static void has(int track, int... toldAndHad) {
        for (int k = 0; k < toldAndHad.length; k += 2) {
            answers("reel(1, 15) thread(0) ",
                "write(" + track + ", " + toldAndHad[k] + ") = " + toldAndHad[k + 1],
                "read(" + track + ") = " + toldAndHad[k + 1]);
            answers("reel(1, 15) thread(0) arm(" + track + ", 2) source(" + toldAndHad[k] + ", 0) ",
                "run(1) = 1", "count(3) = " + toldAndHad[k], "wind(-1) = 0",
                "read(" + track + ") = " + toldAndHad[k + 1]);
        }
    }

    // Terms

    private static void theDeckOfTheTests() {
        says("Terms", "the deck that most tests here begin with");
        looksLike(PLAYED, "status=4", "reels=3", "on deck=0", "p=1", "s=100", "step=7", "rows=2", "cells=3",
            "there 0=15", "there 1=5", "there 2=0", "there 3=-1", "there 4=-1", "there 5=-1", "there 6=-1",
            "there 7=-1", "trip=1 3", "meters=0 -3 0 1", "offsets=1 -1 0 -1", "modes=1 2 3 0",
            "row 0=5 0 0", "row 1=0 0 -6", "track 0.0=65535 7 9", "track 0.1=-32768 8 -3",
            "track 0.2=32768 -32768 5", "track 0.3=1 0 1", "track 1.0=11 13 15 17", "track 1.2=12 14 16 18");
    }

    private static void chars() {
        says("Terms", "CHARS, whose numbers are 0 .. 65535");
        has(0, 0, 0, 1, 1, 65534, 65534, 65535, 65535, -1, 65535, 65536, 0);
        says("Terms", "of CHARS the one of theirs that differs from v by a multiple of 65536");
        has(0, -65535, 1, -65536, 0, -65537, 65535, 65537, 1, 131071, 65535, 131072, 0, -32768, 32768);
        has(0, MAX, 65535, MAX - 65535, 0, MIN, 0, MIN + 65535, 65535);
    }

    private static void shorts() {
        says("Terms", "SHORTS, -32768 .. 32767");
        has(1, 0, 0, -1, -1, -32767, -32767, -32768, -32768, 32766, 32766, 32767, 32767, -32769, 32767, 32768, -32768);
        says("Terms", "of SHORTS the one of theirs that differs from v by a multiple of 65536");
        has(1, 65535, -1, 65536, 0, 65537, 1, -65535, 1, -65536, 0, -65537, -1, 98303, 32767, 98304, -32768);
        has(1, MAX, -1, MAX - 32768, 32767, MIN, 0, MIN + 32767, 32767, MIN + 32768, -32768);
    }

    private static void levels() {
        says("Terms", "LEVELS, each told as how many eighths it is (-32768 .. 32768)");
        has(2, 0, 0, 1, 1, -1, -1, 7, 7, 8, 8, -9, -9, 32767, 32767, 32768, 32768, -32767, -32767, -32768, -32768);
        says("Terms", "of LEVELS the least or the greatest one if v is beyond these");
        has(2, 32769, 32768, -32769, -32768, 65535, 32768, 65536, 32768, -65536, -32768, MAX, 32768, MIN, -32768);
    }

    private static void truths() {
        says("Terms", "of TRUTHS 1 if v is odd, else 0");
        has(3, 0, 0, 1, 1, 2, 0, 3, 1, -1, 1, -2, 0, -3, 1, 32768, 0, 65535, 1, 65536, 0, MAX, 1, MAX - 1, 0, MIN, 0);
        has(3, MIN + 1, 1);
    }

    private static void allIsZeroAtFirst() {
        says("Terms", "THE DECK has a REEL on it or none (at first)");
        answers("", "count(1) = NONE", "reel(1, 15) = 0", "count(1) = NONE", "read(0) = 0 : 5", "thread(0) = NONE");
        says("Terms", "THE TAPE stands at p (0 at first)");
        answers("", "count(2) = 0", "wind(1) = 1");
        says("Terms", "each TRACK has a HEAD with an OFFSET and a MODE (0 both at first)");
        answers("", "head(0, 1) = 0", "head(1, 1) = 0", "head(2, 1) = 0", "head(3, 1) = 0",
            "arm(0, 1) = 0", "arm(1, 1) = 0", "arm(2, 1) = 0", "arm(3, 1) = 0");
        says("Terms", "SOURCE is a number s with a STEP (0 both at first)");
        answers("reel(1, 15) thread(0) arm(2, 2) ", "count(3) = 0", "run(1) = 1", "count(3) = 0", "source(1, 1) = 0");
        says("Terms", "METER (0 at first)");
        answers("", "meter(0) = 0", "meter(1) = 0", "meter(2) = 0", "meter(3) = 0");
        says("Terms", "THE SHEET: none at first");
        answers("", "count(4) = NONE", "count(5) = NONE", "cue(0, 0, 1) = 0 : 2", "seek(0, 0) = 0 : 2");
    }

    private static void reelsFromZeroOn() {
        says("Terms", "REELS are numbered from 0 on");
        answers("", "reel(1, 1) = 0", "reel(0, 1) = NONE : 1", "reel(2, 1) = 1", "reel(3, 1) = 2");
    }

    private static void placesAreZeroAtFirst() {
        says("Terms", "a TRACK that is there has PLACES 0 .. LENGTH - 1 with a number each, 0 at first");
        done("", "reel(3, 15)", 0, "reels=1", "there 0=15",
            "track 0.0=0 0 0", "track 0.1=0 0 0", "track 0.2=0 0 0", "track 0.3=0 0 0");
    }

    private static void placesOutside() {
        says("Terms", "all other places are OUTSIDE");
        for (int length : new int[] {1, 2, 63, 64}) {
            String deck = "reel(" + length + ", 15) thread(0) sheet(1, 1) ";
            for (int track = 0; track < 4; track++) {
                String read = "read(" + track + ")";
                for (int place : new int[] {0, length - 1}) {
                    answers(deck + at(place), "write(" + track + ", 1) = 1", read + " = 1");
                }
                for (int place : new int[] {-1, length, length + 1, MAX, MIN, MIN + length}) {
                    answers(deck + at(place), "write(" + track + ", 1) = 0 : 3", read + " = 0 : 3");
                }
            }
        }
    }

    private static void headsStandApart() {
        says("Terms", "each TRACK has a HEAD with an OFFSET: it stands at place p + OFFSET");
        for (int track = 0; track < 4; track++) {
            String deck = "reel(3, 15) thread(0) sheet(1, 1) ";
            String write = "write(" + track + ", 1)";
            String name = "track 0." + track;
            done(deck + "head(" + track + ", 8) " + at(-8), write, 1, name + "=1 0 0");
            done(deck + "head(" + track + ", 8) " + at(-6), write, 1, name + "=0 0 1");
            done(deck + "head(" + track + ", -8) " + at(8), write, 1, name + "=1 0 0");
            done(deck + "head(" + track + ", -8) " + at(10), write, 1, name + "=0 0 1");
            refused(deck + "head(" + track + ", 8) " + at(-9), 0, 3, write);
            refused(deck + "head(" + track + ", 8) " + at(-5), 0, 3, write);
            refused(deck + "head(" + track + ", -8) " + at(7), 0, 3, write);
            refused(deck + "head(" + track + ", -8) " + at(11), 0, 3, write);
        }
    }

    private static void numbersWrap() {
        says("Terms", "All numbers are of 32 bits and wrap: the place of a HEAD");
        String far = PLAYED + "head(0, 8) head(1, -8) ";
        refused(far + at(MAX), 0, 3, "read(0)", "write(0, 1)", "turn(0, 2)", "turn(0, 64)");
        refused(far + at(MIN), 0, 3, "read(1)", "write(1, 1)", "turn(1, 2)", "turn(1, 64)");
        refused(far + at(MAX), NONE, 3, "scan(0, 0)");
        refused(far + at(MIN), NONE, 3, "scan(1, 0)");
        says("Terms", "All numbers are of 32 bits and wrap: p behind a TICK");
        String idle = PLAYED + "arm(0, 0) arm(1, 0) arm(2, 0) ";
        done(idle + at(MAX), "run(1)", 1, "p=" + MIN, "trip=-1 0");
        done(idle + at(MAX - 99), "run(100)", 100, "p=" + MIN, "trip=-1 0");
        done(idle + at(-1), "run(1)", 1, "p=0", "trip=-1 0");
        says("Terms", "All numbers are of 32 bits and wrap: s + STEP");
        String recording = "reel(2, 15) thread(0) arm(2, 2) ";
        done(recording + "source(MAX, 1) ", "run(1)", 1, "p=1", "s=" + MIN, "track 0.2=32768 0");
        done(recording + "source(MIN, -1) ", "run(1)", 1, "p=1", "s=" + MAX, "track 0.2=-32768 0");
        done(recording + "source(MIN, MIN) ", "run(2)", 2, "p=2", "track 0.2=-32768 0");
        says("Terms", "All numbers are of 32 bits and wrap: the number there and s together");
        String mixing = "reel(1, 15) thread(0) arm(2, 3) write(2, ";
        done(mixing + "1) source(MAX, 0) ", "run(1)", 1, "p=1", "track 0.2=-32768");
        done(mixing + "-1) source(MIN, 0) ", "run(1)", 1, "p=1", "track 0.2=32768");
        done(mixing + "32768) source(MIN, 0) ", "run(1)", 1, "p=1", "track 0.2=-32768");
        done(mixing + "-32768) source(MAX, 0) ", "run(1)", 1, "p=1", "track 0.2=32768");
    }

    private static void aMissingTrackFails() {
        says("Terms", "it fails if the TRACK is MISSING (STATUS 2)");
        for (int track = 0; track < 4; track++) {
            String deck = PLAYED + "head(" + track + ", 0) strip(0, " + track + ") ";
            refused(deck, 0, 2, "read(" + track + ")", "write(" + track + ", 1)");
        }
    }

    private static void aMissingTrackFailsFirst() {
        says("Terms", "MISSING (STATUS 2), else if the place is OUTSIDE (STATUS 3)");
        for (int track = 0; track < 4; track++) {
            String deck = PLAYED + "head(" + track + ", 0) strip(0, " + track + ") ";
            refused(deck + at(-1), 0, 2, "read(" + track + ")", "write(" + track + ", 1)");
            refused(deck + at(3), 0, 2, "read(" + track + ")", "write(" + track + ", 1)");
        }
    }

    private static void aPlaceOutsideFails() {
        says("Terms", "else if the place is OUTSIDE (STATUS 3); then nothing is stored");
        for (int track = 0; track < 4; track++) {
            String deck = PLAYED + "head(" + track + ", 0) ";
            refused(deck + at(-1), 0, 3, "read(" + track + ")", "write(" + track + ", 1)");
            refused(deck + at(3), 0, 3, "read(" + track + ")", "write(" + track + ", 1)");
        }
    }

    /** A HEAD of this MODE stands at place 0, where there is a 1. */
    private static String armedAtOne(int track, int mode) {
        return "reel(2, 15) thread(0) source(5, 3) write(" + track + ", 1) head(" + track + ", -1) wind(1)"
            + " arm(" + track + ", " + mode + ") ";
    }

    private static void modeNothing() {
        says("Terms", "A TICK: 0 nothing");
        done("reel(1, 0) thread(0) source(1, 1) wind(-9) ", "run(1)", 1, "p=-8");
        for (int track = 0; track < 4; track++) {
            done(armedAtOne(track, 0), "run(1)", 1, "p=2");
        }
    }

    private static void modePlay() {
        says("Terms", "A TICK: 1 the number at its place is LOADED and added to the TRACK's METER (0 at first)");
        String[] meters = {"1 0 0 0", "0 1 0 0", "0 0 1 0", "0 0 0 1"};
        for (int track = 0; track < 4; track++) {
            done(armedAtOne(track, 1), "run(1)", 1, "p=2", "meters=" + meters[track]);
        }
    }

    private static void modeRecord() {
        says("Terms", "A TICK: 2 s is STORED there, then s becomes s + STEP");
        for (int track = 0; track < 3; track++) {
            done(armedAtOne(track, 2), "run(1)", 1, "p=2", "s=8", "track 0." + track + "=5 0");
        }
        done(armedAtOne(3, 2), "run(1)", 1, "p=2", "s=8");
        done(armedAtOne(3, 2) + "source(4, 3) ", "run(1)", 1, "p=2", "s=7", "track 0.3=0 0");
    }

    private static void modeMix() {
        says("Terms", "A TICK: 3 it and s together are STORED there, then s becomes s + STEP");
        for (int track = 0; track < 3; track++) {
            done(armedAtOne(track, 3), "run(1)", 1, "p=2", "s=8", "track 0." + track + "=6 0");
        }
        done(armedAtOne(3, 3), "run(1)", 1, "p=2", "s=8", "track 0.3=0 0");
    }

    private static void mixedAsTheTrackHasIt() {
        says("Terms", "3 it and s together are STORED there (AS the TRACK HAS IT)");
        String deck = "reel(1, 15) thread(0) ";
        done(deck + "source(1, 0) arm(0, 3) write(0, 65535) ", "run(1)", 1, "p=1", "track 0.0=0");
        done(deck + "source(-1, 0) arm(0, 3) ", "run(1)", 1, "p=1", "track 0.0=65535");
        done(deck + "source(1, 0) arm(1, 3) write(1, 32767) ", "run(1)", 1, "p=1", "track 0.1=-32768");
        done(deck + "source(-1, 0) arm(1, 3) write(1, -32768) ", "run(1)", 1, "p=1", "track 0.1=32767");
        done(deck + "source(1, 0) arm(2, 3) write(2, 32768) ", "run(1)", 1, "p=1");
        done(deck + "source(2, 0) arm(2, 3) write(2, 32767) ", "run(1)", 1, "p=1", "track 0.2=32768");
        done(deck + "source(-1, 0) arm(2, 3) write(2, -32768) ", "run(1)", 1, "p=1");
        done(deck + "source(-2, 0) arm(2, 3) write(2, -32767) ", "run(1)", 1, "p=1", "track 0.2=-32768");
        done(deck + "source(1, 0) arm(3, 3) write(3, 1) ", "run(1)", 1, "p=1", "track 0.3=0");
        done(deck + "source(2, 0) arm(3, 3) write(3, 1) ", "run(1)", 1, "p=1");
    }

    private static void headsInTurn() {
        says("Terms", "the HEADS of TRACKS 0 to 3, in turn; Behind all four p becomes p + 1");
        done(RECORDING, "run(1)", 1, "p=1", "s=14",
            "track 0.0=10 0 0", "track 0.1=11 0 0", "track 0.2=12 0 0", "track 0.3=1 0 0");
        done(RECORDING + "arm(1, 3) arm(2, 1) ", "run(2)", 2, "p=2", "s=16",
            "track 0.0=10 13 0", "track 0.1=11 14 0", "track 0.3=0 1 0");
    }

    private static void aTickEndsWhereOneFails() {
        says("Terms", "If one fails, the TICK ends there: THE TRIP is that TRACK, and the STATUS");
        for (int track = 0; track < 4; track++) {
            List<String> changed = new ArrayList<>();
            for (int k = 0; k < track; k++) {
                changed.add("track 0." + k + "=" + (10 + k) + " 0 0");
            }
            if (track > 0) {
                changed.add("s=" + (10 + track));
            }
            for (int mode = 1; mode <= 3; mode++) {
                String armed = RECORDING + "arm(" + track + ", " + mode + ") ";
                tripsAt(armed + "strip(0, " + track + ") ", track, 2, changed);
                tripsAt(armed + "strip(0, " + track + ") head(" + track + ", -1) ", track, 2, changed);
                tripsAt(armed + "head(" + track + ", -1) ", track, 3, changed);
                tripsAt(armed + "head(" + track + ", 3) ", track, 3, changed);
            }
        }
    }

    private static void tripsAt(String deck, int track, int status, List<String> before) {
        List<String> changed = new ArrayList<>(before);
        changed.add("trip=" + track + " " + status);
        ends(deck, "run(1)", 0, status, changed.toArray(new String[0]));
        ends(deck, "run(100)", 0, status, changed.toArray(new String[0]));
    }

    private static void whatCameBeforeInTheTickStays() {
        says("Terms", "what came before in the TICK stays: a METER");
        ends(PLAYED + "strip(0, 1) ", "run(1)", 0, 2, "meters=9 -3 0 1", "trip=1 2");
        says("Terms", "what came before in the TICK stays: a number STORED, and s");
        ends(PLAYED + "strip(0, 2) ", "run(1)", 0, 2, "meters=9 -3 0 1", "s=107", "track 0.1=100 8 -3", "trip=2 2");
        says("Terms", "what came before in the TICK stays: all but the last HEAD's");
        ends(PLAYED + "arm(3, 2) head(3, 2) ", "run(1)", 0, 3, "meters=9 -3 0 1", "s=114", "track 0.1=100 8 -3",
            "track 0.2=32768 -32661 5", "trip=3 3");
    }

    private static void whichStatusComesFirst() {
        says("Terms", "STATUS: the first of these that fits: 1 before 5");
        refused(EIGHT_REELS, NONE, 1, "reel(0, 15)", "reel(65, 15)", "reel(1, -1)", "reel(1, 16)");
        refused(EMPTY_DECK, 0, 1, "read(-1)", "read(4)", "write(-1, 1)", "write(4, 1)", "run(0)", "run(101)",
            "turn(-1, 2)", "turn(4, 2)", "turn(0, -1)", "turn(0, 65)");
        refused(EMPTY_DECK, NONE, 1, "scan(-1, 0)", "scan(4, 0)");
        says("Terms", "STATUS: the first of these that fits: 1 before 2 and 3");
        refused(PLAYED, 0, 1, "dub(2, 0, -1, 65, 2, 0)", "dub(2, 0, -1, -1, 2, 0)", "dub(2, 0, 0, 1, 3, 0)");
        refused(PLAYED + "thread(2) wind(9) ", 0, 1, "turn(0, 65)", "turn(0, -1)");
        says("Terms", "STATUS: the first of these that fits: 1 before 4");
        refused(PLAYED + "wind(0) ", NONE, 1, "sheet(17, -1)", "sheet(-1, 17)", "sheet(MAX, MIN)", "sheet(MIN, MAX)");
        says("Terms", "STATUS: the first of these that fits: 5 before 3");
        refused(EMPTY_DECK + at(-1), 0, 5, "read(0)", "write(0, 1)", "run(1)", "turn(0, 2)");
        refused(EMPTY_DECK + at(-1), NONE, 5, "scan(0, 0)");
        says("Terms", "STATUS: 2 there is no SHEET, before 3 THE SHEET has no such cell");
        refused(NO_SHEET, 0, 2, "cue(-1, -1, 1)", "cue(16, 16, 1)");
        refused(NO_SHEET, 5, 2, "seek(-1, -1)", "seek(16, 16)");
    }

    // Promise 1

    private static void newObject() {
        says("Promise 1", "No REELS, no SHEET");
        String[] seen = {"status=0", "reels=0", "on deck=-1", "p=0", "s=0", "step=0", "rows=-1", "cells=-1",
            "there 0=-1", "there 1=-1", "there 2=-1", "there 3=-1", "there 4=-1", "there 5=-1", "there 6=-1",
            "there 7=-1", "trip=-1 0", "meters=0 0 0 0", "offsets=0 0 0 0", "modes=0 0 0 0"};
        looksLike("", seen);
        new Used(EIGHT_REELS);
        looksLike("", seen);
        says("Terms", "There is none: NONE = -1");
        due("NONE", FourTrackDeck.NONE, -1);
    }

    // Promise 2

    private static void reelOfALength() {
        says("Promise 2", "A REEL of a LENGTH (1 .. 64)");
        done(PLAYED, "reel(1, 2)", 3, "reels=4", "there 3=2", "track 3.1=0");
        done(PLAYED, "reel(2, 2)", 3, "reels=4", "there 3=2", "track 3.1=0 0");
        done(PLAYED, "reel(63, 2)", 3, "reels=4", "there 3=2", "track 3.1=" + times(63, 0));
        done(PLAYED, "reel(64, 2)", 3, "reels=4", "there 3=2", "track 3.1=" + times(64, 0));
        refused(PLAYED, NONE, 1, "reel(0, 2)", "reel(-1, 2)", "reel(65, 2)", "reel(66, 2)", "reel(MAX, 2)",
            "reel(MIN, 2)");
        refused("", NONE, 1, "reel(0, 0)", "reel(65, 15)");
    }

    private static void reelByBits() {
        says("Promise 2", "TRACK k is there if bit k of there (0 .. 15) is 1");
        for (int there = 0; there <= 15; there++) {
            List<String> changed = new ArrayList<>(List.of("reels=4", "there 3=" + there));
            for (int k = 0; k < 4; k++) {
                if ((there & 1 << k) != 0) {
                    changed.add("track 3." + k + "=0");
                }
            }
            done(PLAYED, "reel(1, " + there + ")", 3, changed.toArray(new String[0]));
        }
        refused(PLAYED, NONE, 1, "reel(1, -1)", "reel(1, 16)", "reel(1, 17)", "reel(1, 31)", "reel(1, MAX)",
            "reel(1, MIN)", "reel(1, -16)");
    }

    private static void reelsAreEight() {
        says("Promise 2", "NONE: STATUS 1, or 5: there are eight");
        done("", "reel(1, 0)", 0, "reels=1", "there 0=0");
        done(SEVEN_REELS, "reel(1, 0)", 7, "reels=8", "there 7=0");
        refused(EIGHT_REELS, NONE, 5, "reel(1, 0)", "reel(64, 15)", "reel(1, 1)");
        refused(EIGHT_REELS + "strip(7, 0) strip(6, 3) thread(NONE) ", NONE, 5, "reel(1, 0)", "reel(64, 15)");
    }

    // Promise 3

    private static void stripOfOneThere() {
        says("Promise 3", "A TRACK of a REEL is MISSING from now on: 1 if it was there");
        for (int track = 0; track < 4; track++) {
            done(PLAYED, "strip(0, " + track + ")", 1, "there 0=" + (15 - (1 << track)), "track 0." + track + " gone");
        }
        done(PLAYED, "strip(1, 2)", 1, "there 1=1", "track 1.2 gone");
        done(EIGHT_REELS, "strip(7, 0)", 1, "there 7=0", "track 7.0 gone");
        answers(PLAYED, "strip(0, 3) = 1", "read(3) = 0 : 2", "write(3, 1) = 0 : 2", "scan(3, 0) = NONE : 2",
            "turn(3, 2) = 0 : 2", "dub(0, 3, 0, 1, 0, 0) = 0 : 2", "dub(0, 0, 0, 1, 0, 3) = 0 : 2", "count(10) = 7");
    }

    private static void stripOfOneMissing() {
        says("Promise 3", "A TRACK of a REEL is MISSING from now on: else 0");
        unchanging(PLAYED, 0, "strip(1, 1)", "strip(1, 3)", "strip(2, 0)", "strip(2, 3)");
        unchanging(PLAYED + "strip(0, 0) ", 0, "strip(0, 0)");
    }

    private static void stripRefused() {
        says("Promise 3", "NONE: STATUS 1");
        refused(PLAYED, NONE, 1, "strip(-1, 0)", "strip(3, 0)", "strip(7, 0)", "strip(8, 0)", "strip(MAX, 0)",
            "strip(MIN, 0)", "strip(0, -1)", "strip(0, 4)", "strip(0, MAX)", "strip(0, MIN)", "strip(3, 4)");
        refused(EIGHT_REELS, NONE, 1, "strip(8, 0)", "strip(7, 4)");
        refused("", NONE, 1, "strip(0, 0)", "strip(-1, 3)");
    }

    // Promise 4

    private static void layOfOneMissing() {
        says("Promise 4", "A TRACK of a REEL is there, each number 0: 1 if it was MISSING");
        done(PLAYED, "lay(1, 1)", 1, "there 1=7", "track 1.1=0 0 0 0");
        done(PLAYED, "lay(1, 3)", 1, "there 1=13", "track 1.3=0 0 0 0");
        done(PLAYED, "lay(2, 0)", 1, "there 2=1", "track 2.0=0");
        done(EIGHT_REELS, "lay(7, 3)", 1, "there 7=9", "track 7.3=0 0");
        done("reel(64, 0) ", "lay(0, 2)", 1, "there 0=4", "track 0.2=" + times(64, 0));
        for (int track = 0; track < 4; track++) {
            done(PLAYED + "strip(0, " + track + ") ", "lay(0, " + track + ")", 1, "there 0=15",
                "track 0." + track + "=0 0 0");
        }
    }

    private static void layOfOneThere() {
        says("Promise 4", "each number 0 (also if it was there): else 0");
        for (int track = 0; track < 4; track++) {
            done(PLAYED, "lay(0, " + track + ")", 0, "track 0." + track + "=0 0 0");
        }
        done(LONG, "lay(0, 1)", 0, "track 0.1=" + times(64, 0));
        unchanging(LONG, 0, "lay(1, 0)");
    }

    private static void layRefused() {
        says("Promise 4", "NONE: STATUS 1");
        refused(PLAYED, NONE, 1, "lay(-1, 0)", "lay(3, 0)", "lay(7, 0)", "lay(8, 0)", "lay(MAX, 0)", "lay(MIN, 0)",
            "lay(0, -1)", "lay(0, 4)", "lay(0, MAX)", "lay(0, MIN)", "lay(3, 4)");
        refused(EIGHT_REELS, NONE, 1, "lay(8, 0)", "lay(7, 4)");
        refused("", NONE, 1, "lay(0, 0)", "lay(-1, 3)");
    }

    // Promise 5

    private static void threadOfAReel() {
        says("Promise 5", "This REEL is on THE DECK: which one was (NONE)");
        done(EMPTY_DECK, "thread(0)", NONE, "on deck=0");
        done(EMPTY_DECK, "thread(2)", NONE, "on deck=2");
        done(PLAYED, "thread(2)", 0, "on deck=2");
        unchanging(PLAYED, 0, "thread(0)");
        done(EIGHT_REELS, "thread(7)", 0, "on deck=7");
        done(EIGHT_REELS + "thread(7) ", "thread(0)", 7, "on deck=0");
    }

    private static void threadOfNone() {
        says("Promise 5", "NONE: none is");
        done(PLAYED, "thread(NONE)", 0, "on deck=-1");
        done(EIGHT_REELS + "thread(7) ", "thread(NONE)", 7, "on deck=-1");
        unchanging(EMPTY_DECK, NONE, "thread(NONE)");
        unchanging("", NONE, "thread(NONE)");
    }

    private static void threadRefused() {
        says("Promise 5", "NONE: STATUS 1");
        refused(PLAYED, NONE, 1, "thread(3)", "thread(-2)", "thread(7)", "thread(8)", "thread(MAX)", "thread(MIN)");
        refused(EMPTY_DECK, NONE, 1, "thread(3)", "thread(-2)");
        refused(EIGHT_REELS, NONE, 1, "thread(8)", "thread(-2)");
        refused("", NONE, 1, "thread(0)", "thread(-2)");
    }

    // Promise 6

    private static void headOffsets() {
        says("Promise 6", "The OFFSET of a TRACK's HEAD, -8 .. 8: what it was");
        done(PLAYED, "head(0, 8)", 1, "offsets=8 -1 0 -1");
        done(PLAYED, "head(1, -8)", -1, "offsets=1 -8 0 -1");
        done(PLAYED, "head(2, 7)", 0, "offsets=1 -1 7 -1");
        done(PLAYED, "head(3, -7)", -1, "offsets=1 -1 0 -7");
        unchanging(PLAYED, 1, "head(0, 1)");
        done(PLAYED + "head(3, 8) ", "head(3, -8)", 8, "offsets=1 -1 0 -8");
        done(PLAYED + "head(3, -8) ", "head(3, 8)", -8, "offsets=1 -1 0 8");
        done("", "head(3, 8)", 0, "offsets=0 0 0 8");
    }

    private static void headRefused() {
        says("Promise 6", "0: STATUS 1");
        refused(PLAYED, 0, 1, "head(0, 9)", "head(0, -9)", "head(3, 9)", "head(3, -9)", "head(1, MAX)", "head(1, MIN)",
            "head(-1, 0)", "head(4, 0)", "head(MAX, 0)", "head(MIN, 0)", "head(4, 9)");
        refused("", 0, 1, "head(0, 9)", "head(0, -9)", "head(-1, 0)", "head(4, 0)");
    }

    // Promise 7

    private static void armModes() {
        says("Promise 7", "The MODE of a TRACK's HEAD, 0 .. 3: what it was");
        done(PLAYED, "arm(0, 0)", 1, "modes=0 2 3 0");
        done(PLAYED, "arm(1, 3)", 2, "modes=1 3 3 0");
        done(PLAYED, "arm(2, 1)", 3, "modes=1 2 1 0");
        done(PLAYED, "arm(3, 2)", 0, "modes=1 2 3 2");
        unchanging(PLAYED, 3, "arm(2, 3)");
        done("", "arm(3, 3)", 0, "modes=0 0 0 3");
    }

    private static void armRefused() {
        says("Promise 7", "0: STATUS 1");
        refused(PLAYED, 0, 1, "arm(0, -1)", "arm(0, 4)", "arm(2, -1)", "arm(2, 4)", "arm(1, MAX)", "arm(1, MIN)",
            "arm(-1, 0)", "arm(4, 0)", "arm(MAX, 0)", "arm(MIN, 0)", "arm(4, 4)");
        refused("", 0, 1, "arm(0, -1)", "arm(0, 4)", "arm(-1, 0)", "arm(4, 0)");
    }

    // Promise 8

    private static void source() {
        says("Promise 8", "SOURCE: s and its STEP: what s was");
        done(PLAYED, "source(MAX, MIN)", 100, "s=" + MAX, "step=" + MIN);
        done(PLAYED, "source(MIN, MAX)", 100, "s=" + MIN, "step=" + MAX);
        done(PLAYED, "source(0, 0)", 100, "s=0", "step=0");
        done(PLAYED, "source(100, -1)", 100, "step=-1");
        done(PLAYED, "source(-1, 7)", 100, "s=-1");
        unchanging(PLAYED, 100, "source(100, 7)");
        done(PLAYED + "source(MAX, 1) ", "source(MIN, 1)", MAX, "s=" + MIN);
        done(PLAYED + "source(MIN, 1) ", "source(MAX, 1)", MIN, "s=" + MAX);
        done("", "source(65536, 65536)", 0, "s=65536", "step=65536");
        answers(PLAYED, "run(1) = 1", "source(0, 0) = 114", "source(0, 0) = 0");
    }

    // Promise 9

    private static void windBy() {
        says("Promise 9", "p becomes p + by, -1000 .. 1000: p");
        done(PLAYED, "wind(1000)", 1001, "p=1001");
        done(PLAYED, "wind(999)", 1000, "p=1000");
        done(PLAYED, "wind(-1000)", -999, "p=-999");
        done(PLAYED, "wind(-999)", -998, "p=-998");
        done(PLAYED, "wind(-1)", 0, "p=0");
        unchanging(PLAYED, 1, "wind(0)");
        done(EMPTY_DECK, "wind(1000)", 1001, "p=1001");
        done("", "wind(-1000)", -1000, "p=-1000");
    }

    private static void windWraps() {
        says("Promise 9", "p becomes p + by: All numbers are of 32 bits and wrap");
        done(PLAYED + at(MAX), "wind(1)", MIN, "p=" + MIN);
        done(PLAYED + at(MAX), "wind(1000)", MIN + 999, "p=" + (MIN + 999));
        done(PLAYED + at(MAX - 1000), "wind(1000)", MAX, "p=" + MAX);
        done(PLAYED + at(MIN), "wind(-1)", MAX, "p=" + MAX);
        done(PLAYED + at(MIN), "wind(-1000)", MAX - 999, "p=" + (MAX - 999));
        done(PLAYED + at(MIN + 1000), "wind(-1000)", MIN, "p=" + MIN);
    }

    private static void windRefused() {
        says("Promise 9", "STATUS 1: p as it was");
        refused(PLAYED, 1, 1, "wind(1001)", "wind(-1001)", "wind(MAX)", "wind(MIN)");
        refused(PLAYED + at(MAX), MAX, 1, "wind(1001)", "wind(-1001)");
        refused(PLAYED + at(MIN), MIN, 1, "wind(1001)", "wind(-1001)");
        refused("", 0, 1, "wind(1001)", "wind(-1001)");
    }

    // Promise 10

    private static void readAtTheHead() {
        says("Promise 10", "The number LOADED at the place of a TRACK's HEAD");
        unchanging(PLAYED, 9, "read(0)");
        unchanging(PLAYED, -32768, "read(1)", "read(2)");
        unchanging(PLAYED, 1, "read(3)");
        unchanging(PLAYED + at(0), 32768, "read(2)");
        unchanging(PLAYED + at(2), 5, "read(2)");
        unchanging(PLAYED + at(-1), 65535, "read(0)");
        unchanging(PLAYED + at(3), -3, "read(1)");
    }

    private static void readRefused() {
        says("Promise 10", "0: STATUS 1");
        refused(PLAYED, 0, 1, "read(-1)", "read(4)", "read(MAX)", "read(MIN)");
        refused("", 0, 1, "read(-1)", "read(4)");
        says("Promise 10", "0: STATUS 5");
        refused(EMPTY_DECK, 0, 5, "read(0)", "read(1)", "read(2)", "read(3)");
        refused("", 0, 5, "read(0)", "read(3)");
        says("Promise 10", "0: STATUS 2");
        refused(PLAYED + "thread(1) ", 0, 2, "read(1)", "read(3)");
        refused(PLAYED + "thread(2) wind(9) ", 0, 2, "read(0)", "read(1)", "read(2)", "read(3)");
        says("Promise 10", "0: STATUS 3");
        refused(PLAYED + at(2), 0, 3, "read(0)");
        refused(PLAYED + at(3), 0, 3, "read(2)");
        refused(PLAYED + at(-1), 0, 3, "read(1)", "read(2)", "read(3)");
    }

    // Promise 11

    private static void writeAtTheHead() {
        says("Promise 11", "v is STORED at the place of a TRACK's HEAD: the number that is there then");
        done(PLAYED, "write(0, 65536)", 0, "track 0.0=65535 7 0");
        done(PLAYED, "write(1, 32768)", -32768);
        done(PLAYED, "write(1, -32769)", 32767, "track 0.1=32767 8 -3");
        done(PLAYED, "write(2, 32769)", 32768, "track 0.2=32768 32768 5");
        done(PLAYED, "write(2, MIN)", -32768);
        done(PLAYED, "write(3, -2)", 0, "track 0.3=0 0 1");
        done(PLAYED + at(-1), "write(0, -1)", 65535);
        done(PLAYED + at(-1), "write(0, 4)", 4, "track 0.0=4 7 9");
        done(PLAYED + at(2), "write(2, MAX)", 32768, "track 0.2=32768 -32768 32768");
    }

    private static void writeRefused() {
        says("Promise 11", "0: STATUS 1");
        refused(PLAYED, 0, 1, "write(-1, 1)", "write(4, 1)", "write(MAX, 1)", "write(MIN, 1)");
        refused("", 0, 1, "write(-1, 1)", "write(4, 1)");
        says("Promise 11", "0: STATUS 5");
        refused(EMPTY_DECK, 0, 5, "write(0, 1)", "write(1, 1)", "write(2, 1)", "write(3, 1)");
        refused("", 0, 5, "write(0, 1)", "write(3, 1)");
        says("Promise 11", "0: STATUS 2");
        refused(PLAYED + "thread(1) ", 0, 2, "write(1, 1)", "write(3, 1)");
        refused(PLAYED + "thread(2) wind(9) ", 0, 2, "write(0, 1)", "write(1, 1)", "write(2, 1)", "write(3, 1)");
        says("Promise 11", "0: STATUS 3");
        refused(PLAYED + at(2), 0, 3, "write(0, 1)");
        refused(PLAYED + at(3), 0, 3, "write(2, 1)");
        refused(PLAYED + at(-1), 0, 3, "write(1, 1)", "write(2, 1)", "write(3, 1)");
    }

    // Promise 12

    private static void runTicks() {
        says("Promise 12", "So many TICKS (1 .. 100): how many were whole");
        done(PLAYED, "run(1)", 1, "p=2", "s=114", "meters=9 -3 0 1", "track 0.1=100 8 -3",
            "track 0.2=32768 -32661 5", "trip=-1 0");
        String idle = PLAYED + "arm(0, 0) arm(1, 0) arm(2, 0) ";
        done(idle, "run(2)", 2, "p=3", "trip=-1 0");
        done(idle, "run(99)", 99, "p=100", "trip=-1 0");
        done(idle, "run(100)", 100, "p=101", "trip=-1 0");
        done(LONG + "source(64, 0) arm(1, 3) ", "run(64)", 64, "p=64", "track 0.1=" + upTo(65, 128));
    }

    private static void runUpToOneThatFails() {
        says("Promise 12", "up to one that fails: how many were whole; STATUS 2, 3: that of THE TRIP");
        String[] changed = {"p=2", "s=114", "meters=9 -3 0 1", "track 0.1=100 8 -3", "track 0.2=32768 -32661 5",
            "trip=0 3"};
        ends(PLAYED, "run(2)", 1, 3, changed);
        ends(PLAYED, "run(100)", 1, 3, changed);
        ends(PLAYED + "thread(1) ", "run(1)", 0, 2, "meters=15 -3 0 1", "trip=1 2");
        ends(PLAYED + "thread(2) ", "run(100)", 0, 2, "trip=0 2");
        ends(PLAYED + at(-1), "run(1)", 0, 3, "meters=65535 -3 0 1");
        String first = "reel(64, 2) thread(0) arm(1, 2) source(1, 1) ";
        done(first, "run(64)", 64, "p=64", "s=65", "track 0.1=" + upTo(1, 64));
        ends(first, "run(65)", 64, 3, "p=64", "s=65", "track 0.1=" + upTo(1, 64), "trip=1 3");
        ends(first + "wind(-1) ", "run(65)", 0, 3, "trip=1 3");
    }

    private static void runRefused() {
        says("Promise 12", "0: STATUS 1");
        refused(PLAYED, 0, 1, "run(0)", "run(-1)", "run(101)", "run(102)", "run(MAX)", "run(MIN)");
        refused("", 0, 1, "run(0)", "run(101)");
        says("Promise 12", "0: STATUS 5");
        refused(EMPTY_DECK, 0, 5, "run(1)", "run(100)");
        refused("", 0, 5, "run(1)", "run(100)");
    }

    // Promise 13

    private static void dubOfSoMany() {
        says("Promise 13", "For k = 0 to n - 1 (n is 0 .. 64): how many were STORED");
        unchanging(PLAYED, 0, "dub(1, 0, 0, 0, 0, 0)");
        done(PLAYED, "dub(1, 0, 3, 1, 0, 2)", 1, "track 0.2=32768 17 5");
        done(PLAYED, "dub(1, 0, 0, 2, 0, 2)", 2, "track 0.2=32768 11 13");
        done(LONG, "dub(0, 1, 0, 63, 1, 0)", 63, "track 1.0=" + upTo(1, 63) + " 0");
        done(LONG, "dub(0, 1, 0, 64, 1, 0)", 64, "track 1.0=" + upTo(1, 64));
        refused(PLAYED, 0, 1, "dub(1, 0, 0, -1, 0, 2)", "dub(1, 0, 0, 65, 0, 2)", "dub(1, 0, 0, MAX, 0, 2)",
            "dub(1, 0, 0, MIN, 0, 2)");
        refused(LONG, 0, 1, "dub(0, 1, 0, 65, 1, 0)", "dub(0, 1, 0, -1, 1, 0)");
        says("Promise 13", "n is 0: nothing is LOADED, so that nothing fails");
        unchanging(PLAYED, 0, "dub(2, 0, 0, 0, 0, 0)", "dub(0, 0, 0, 0, 2, 0)", "dub(0, 0, -1, 0, 0, 0)",
            "dub(2, 3, MIN, 0, 2, 3)");
        unchanging(PLAYED + at(MIN), 0, "dub(0, 0, 0, 0, 0, 0)");
    }

    private static void dubRefused() {
        says("Promise 13", "0: STATUS 1");
        for (String reel : new String[] {"-1", "3", "7", "8", "MAX", "MIN"}) {
            refused(PLAYED, 0, 1, "dub(" + reel + ", 0, 0, 1, 0, 0)", "dub(1, 0, 0, 1, " + reel + ", 0)",
                "dub(" + reel + ", 0, 0, 0, 0, 0)", "dub(1, 0, 0, 0, " + reel + ", 0)");
        }
        for (String track : new String[] {"-1", "4", "MAX", "MIN"}) {
            refused(PLAYED, 0, 1, "dub(1, " + track + ", 0, 1, 0, 0)", "dub(1, 0, 0, 1, 0, " + track + ")",
                "dub(1, " + track + ", 0, 0, 0, 0)", "dub(1, 0, 0, 0, 0, " + track + ")");
        }
        refused("", 0, 1, "dub(0, 0, 0, 0, 0, 0)");
        refused(EIGHT_REELS, 0, 1, "dub(8, 0, 0, 1, 7, 0)", "dub(7, 0, 0, 1, 8, 0)");
        done(EIGHT_REELS, "dub(1, 0, 0, 1, 7, 0)", 1, "track 7.0=0 11");
    }

    private static void dubLoads() {
        says("Promise 13", "the number at place at + k is LOADED, up to one that fails: STATUS 3");
        ends(PLAYED, "dub(1, 0, 3, 2, 0, 2)", 1, 3, "track 0.2=32768 17 5");
        ends(PLAYED + at(0), "dub(1, 0, 2, 64, 0, 2)", 2, 3, "track 0.2=15 17 5");
        refused(PLAYED, 0, 3, "dub(1, 0, 4, 1, 0, 2)", "dub(1, 0, -1, 1, 0, 2)", "dub(1, 0, -1, 2, 0, 2)",
            "dub(1, 0, -1, 64, 0, 2)", "dub(1, 0, MIN, 64, 0, 2)");
        says("Promise 13", "place at + k: All numbers are of 32 bits and wrap");
        refused(PLAYED, 0, 3, "dub(1, 0, MAX, 1, 0, 2)", "dub(1, 0, MAX, 2, 0, 2)", "dub(1, 0, MAX, 64, 0, 2)",
            "dub(1, 0, 2147483600, 64, 0, 2)");
        says("Promise 13", "the number at place at + k is LOADED, up to one that fails: STATUS 2");
        refused(PLAYED, 0, 2, "dub(1, 1, 0, 1, 0, 2)", "dub(2, 0, 0, 64, 0, 2)", "dub(1, 1, -1, 1, 0, 2)");
    }

    private static void dubStores() {
        says("Promise 13", "and STORED at place p + k, up to one that fails: STATUS 3");
        done(PLAYED, "dub(1, 0, 0, 2, 0, 2)", 2, "track 0.2=32768 11 13");
        ends(PLAYED, "dub(1, 0, 0, 3, 0, 2)", 2, 3, "track 0.2=32768 11 13");
        done(PLAYED + at(2), "dub(1, 0, 0, 1, 0, 2)", 1, "track 0.2=32768 -32768 11");
        ends(PLAYED + at(2), "dub(1, 0, 0, 2, 0, 2)", 1, 3, "track 0.2=32768 -32768 11");
        done(PLAYED + at(0), "dub(1, 0, 0, 3, 0, 2)", 3, "track 0.2=11 13 15");
        refused(PLAYED + at(3), 0, 3, "dub(1, 0, 0, 1, 0, 2)");
        refused(PLAYED + at(-1), 0, 3, "dub(1, 0, 0, 1, 0, 2)", "dub(1, 0, 0, 2, 0, 2)", "dub(1, 0, 0, 64, 0, 2)");
        says("Promise 13", "place p + k: All numbers are of 32 bits and wrap");
        refused(PLAYED + at(MAX), 0, 3, "dub(1, 0, 0, 1, 0, 2)", "dub(1, 0, 0, 2, 0, 2)", "dub(1, 0, 0, 64, 0, 2)");
        refused(PLAYED + at(MIN), 0, 3, "dub(1, 0, 0, 1, 0, 2)", "dub(1, 0, 0, 64, 0, 2)");
        says("Promise 13", "and STORED at place p + k, up to one that fails: STATUS 2");
        refused(PLAYED, 0, 2, "dub(1, 0, 0, 1, 1, 1)", "dub(0, 0, 0, 64, 2, 0)");
        refused(PLAYED + at(-1), 0, 2, "dub(1, 0, 0, 1, 1, 1)");
    }

    private static void dubLoadsFirst() {
        says("Promise 13", "is LOADED, and STORED: what fails first has the STATUS");
        refused(PLAYED, 0, 3, "dub(1, 0, 4, 1, 1, 1)", "dub(1, 0, -1, 1, 2, 0)");
        refused(PLAYED + at(-1), 0, 2, "dub(1, 1, 0, 1, 0, 0)");
        refused(PLAYED + at(3), 0, 2, "dub(2, 0, 0, 1, 0, 0)");
        refused(PLAYED, 0, 2, "dub(1, 1, 0, 1, 2, 0)");
        refused(PLAYED + at(-1), 0, 3, "dub(1, 0, 4, 1, 0, 0)");
    }

    private static void dubOnTheSame() {
        says("Promise 13", "another TRACK of a REEL (perhaps the same)");
        done(PLAYED, "dub(1, 0, 0, 3, 1, 0)", 3, "track 1.0=11 11 11 11");
        ends(PLAYED, "dub(1, 0, 0, 4, 1, 0)", 3, 3, "track 1.0=11 11 11 11");
        done(PLAYED, "dub(1, 0, 2, 2, 1, 0)", 2, "track 1.0=11 15 17 17");
        ends(PLAYED, "dub(1, 0, 2, 3, 1, 0)", 2, 3, "track 1.0=11 15 17 17");
        unchanging(PLAYED, 3, "dub(1, 0, 1, 3, 1, 0)");
        done(PLAYED, "dub(1, 0, 0, 3, 1, 2)", 3, "track 1.2=12 11 13 15");
    }

    private static void dubAsTheTrackHasIt() {
        says("Promise 13", "STORED (AS the TRACK HAS IT)");
        done(PLAYED, "dub(0, 2, 0, 1, 0, 0)", 1, "track 0.0=65535 32768 9");
        done(PLAYED, "dub(0, 2, 0, 1, 0, 1)", 1, "track 0.1=-32768 -32768 -3");
        done(PLAYED, "dub(0, 2, 1, 1, 0, 0)", 1, "track 0.0=65535 32768 9");
        done(PLAYED, "dub(0, 0, 0, 1, 0, 1)", 1, "track 0.1=-32768 -1 -3");
        done(PLAYED, "dub(0, 0, 0, 1, 0, 2)", 1, "track 0.2=32768 32768 5");
        done(PLAYED, "dub(0, 0, 0, 1, 0, 3)", 1, "track 0.3=1 1 1");
        done(PLAYED, "dub(0, 1, 0, 1, 0, 0)", 1, "track 0.0=65535 32768 9");
        done(PLAYED, "dub(0, 1, 2, 1, 0, 0)", 1, "track 0.0=65535 65533 9");
        done(PLAYED, "dub(0, 1, 2, 1, 0, 3)", 1, "track 0.3=1 1 1");
        unchanging(PLAYED, 1, "dub(0, 1, 0, 1, 0, 2)", "dub(0, 2, 0, 1, 0, 3)");
    }

    private static void dubNeedsNoHead() {
        says("Promise 13", "place at + k, place p + k: no HEAD and no REEL on THE DECK is named");
        done(PLAYED, "dub(1, 2, 0, 1, 0, 0)", 1, "track 0.0=65535 12 9");
        done(PLAYED, "dub(1, 2, 0, 1, 0, 1)", 1, "track 0.1=-32768 12 -3");
        done(EMPTY_DECK, "dub(1, 2, 0, 1, 0, 0)", 1, "track 0.0=65535 12 9");
        done(EMPTY_DECK, "dub(0, 0, 2, 1, 0, 2)", 1, "track 0.2=32768 9 5");
    }

    // Promise 14

    private static void turnOfPairs() {
        says("Promise 14", "For k = 0, 1 .., less than n / 2 cut off (n is 0 .. 64): how many pairs were exchanged");
        unchanging(PLAYED, 0, "turn(1, 0)", "turn(1, 1)");
        done(PLAYED, "turn(1, 2)", 1, "track 0.1=8 -32768 -3");
        done(PLAYED, "turn(1, 3)", 1, "track 0.1=-3 8 -32768");
        done(PLAYED, "turn(2, 2)", 1, "track 0.2=32768 5 -32768");
        done(PLAYED, "turn(3, 2)", 1, "track 0.3=0 1 1");
        done(PLAYED + at(-1), "turn(0, 3)", 1, "track 0.0=9 7 65535");
        done(PLAYED + "thread(1) " + at(0), "turn(2, 4)", 2, "track 1.2=18 16 14 12");
        StringBuilder turned = new StringBuilder("64");
        for (int v = 63; v >= 1; v--) {
            turned.append(' ').append(v);
        }
        done(LONG, "turn(1, 64)", 32, "track 0.1=" + turned);
        done(LONG, "turn(1, 63)", 31, "track 0.1=" + turned.substring(3) + " 64");
        refused(PLAYED, 0, 1, "turn(1, -1)", "turn(1, -2)", "turn(1, 65)", "turn(1, MAX)", "turn(1, MIN)");
        refused(LONG, 0, 1, "turn(1, 65)", "turn(1, 66)", "turn(1, -1)");
    }

    private static void turnOfNoPair() {
        says("Promise 14", "less than n / 2 cut off: without a pair nothing fails");
        unchanging(PLAYED + "strip(0, 1) ", 0, "turn(1, 0)", "turn(1, 1)");
        unchanging(PLAYED + at(-9), 0, "turn(0, 0)", "turn(0, 1)", "turn(3, 0)", "turn(3, 1)");
        unchanging(PLAYED + at(MAX), 0, "turn(0, 0)", "turn(0, 1)");
    }

    private static void turnFails() {
        says("Promise 14", "up to a pair that fails (of which nothing is STORED): STATUS 3, the second place");
        refused(PLAYED, 0, 3, "turn(0, 2)", "turn(1, 4)", "turn(1, 64)", "turn(2, 3)", "turn(3, 5)");
        refused(LONG + "wind(1) ", 0, 3, "turn(1, 64)");
        done(LONG + "wind(62) ", "turn(1, 2)", 1, "track 0.1=" + upTo(1, 62) + " 64 63");
        refused(LONG + "wind(63) ", 0, 3, "turn(1, 2)");
        says("Promise 14", "up to a pair that fails (of which nothing is STORED): STATUS 3, the first place");
        refused(PLAYED + at(0), 0, 3, "turn(1, 2)", "turn(1, 3)", "turn(1, 4)", "turn(3, 4)");
        refused(PLAYED + at(-1), 0, 3, "turn(2, 2)", "turn(2, 3)", "turn(2, 4)");
        says("Promise 14", "up to a pair that fails (of which nothing is STORED): STATUS 3, both places");
        refused(PLAYED + at(-1), 0, 3, "turn(2, 5)", "turn(2, 64)");
        refused(PLAYED + at(9), 0, 3, "turn(2, 2)");
        refused(PLAYED + at(-9), 0, 3, "turn(2, 2)");
        says("Promise 14", "places h + k and h + n - 1 - k: All numbers are of 32 bits and wrap");
        refused(PLAYED + at(MAX), 0, 3, "turn(2, 2)", "turn(2, 64)");
        refused(PLAYED + at(MIN), 0, 3, "turn(2, 2)", "turn(2, 64)");
        says("Promise 14", "STATUS 2");
        refused(PLAYED + "strip(0, 1) ", 0, 2, "turn(1, 2)", "turn(1, 3)", "turn(1, 64)");
        refused(PLAYED + "strip(0, 1) " + at(-9), 0, 2, "turn(1, 2)");
    }

    private static void turnRefused() {
        says("Promise 14", "0: STATUS 1");
        refused(PLAYED, 0, 1, "turn(-1, 2)", "turn(4, 2)", "turn(MAX, 2)", "turn(MIN, 2)", "turn(-1, 0)",
            "turn(4, 65)");
        refused("", 0, 1, "turn(-1, 0)", "turn(4, 0)", "turn(0, -1)", "turn(0, 65)");
        says("Promise 14", "0: STATUS 5");
        refused(EMPTY_DECK, 0, 5, "turn(0, 0)", "turn(1, 1)", "turn(2, 2)", "turn(3, 64)");
        refused("", 0, 5, "turn(0, 0)", "turn(3, 2)");
    }

    // Promise 15

    private static void scanBehindTheHead() {
        says("Promise 15", "How many places behind that of a TRACK's HEAD the first one is (0: it is that)");
        unchanging(PLAYED, 0, "scan(0, 9)", "scan(1, -32768)", "scan(2, -32768)", "scan(3, 1)");
        unchanging(PLAYED, 1, "scan(1, 8)", "scan(2, 5)", "scan(3, 0)");
        unchanging(PLAYED, 2, "scan(1, -3)");
        unchanging(LONG, 0, "scan(1, 1)");
        unchanging(LONG, 62, "scan(1, 63)");
        unchanging(LONG, 63, "scan(1, 64)");
        unchanging(LONG + "wind(63) ", 0, "scan(1, 64)");
        unchanging(PLAYED + at(0), 0, "scan(2, 32768)");
        unchanging(PLAYED + at(-1), 2, "scan(0, 9)");
        says("Promise 15", "the first one whose number is v");
        unchanging("reel(4, 2) thread(0) wind(1) write(1, 6) wind(1) write(1, 6) wind(-2) ", 1, "scan(1, 6)");
        unchanging("reel(4, 2) thread(0) wind(1) write(1, 6) wind(1) write(1, 6) wind(-2) ", 0, "scan(1, 0)");
    }

    private static void scanOfVAsTold() {
        says("Promise 15", "whose number is v");
        refused(PLAYED + at(-1), NONE, 3, "scan(0, -1)", "scan(0, 131071)", "scan(0, 65543)");
        refused(PLAYED, NONE, 3, "scan(1, 32768)", "scan(1, 65533)", "scan(2, -32769)", "scan(2, MIN)", "scan(3, 3)",
            "scan(3, -1)", "scan(3, 2)");
        refused(PLAYED + at(0), NONE, 3, "scan(2, 32769)", "scan(2, MAX)");
    }

    private static void scanUpToTheFirstOutside() {
        says("Promise 15", "NONE: STATUS 3: none was found up to the first OUTSIDE");
        refused(PLAYED, NONE, 3, "scan(0, 7)", "scan(0, 65535)", "scan(0, 0)", "scan(1, 0)", "scan(2, 32768)",
            "scan(1, MAX)", "scan(1, MIN)");
        refused(LONG, NONE, 3, "scan(1, 0)", "scan(1, 65)");
        refused(LONG + "wind(1) ", NONE, 3, "scan(1, 1)");
        refused(LONG + "wind(63) ", NONE, 3, "scan(1, 63)");
        says("Promise 15", "places are LOADED from there on: the HEAD's own is OUTSIDE");
        refused(LONG + "wind(64) ", NONE, 3, "scan(1, 64)", "scan(1, 0)");
        refused(LONG + "wind(-1) ", NONE, 3, "scan(1, 1)", "scan(1, 0)");
        refused(PLAYED + at(0), NONE, 3, "scan(1, -32768)", "scan(1, 8)", "scan(1, 0)");
        refused(PLAYED + at(MAX), NONE, 3, "scan(2, 32768)", "scan(2, 0)");
        refused(PLAYED + at(MIN), NONE, 3, "scan(2, 32768)", "scan(2, 0)");
    }

    private static void scanRefused() {
        says("Promise 15", "NONE: STATUS 1");
        refused(PLAYED, NONE, 1, "scan(-1, 0)", "scan(4, 0)", "scan(MAX, 0)", "scan(MIN, 0)");
        refused("", NONE, 1, "scan(-1, 0)", "scan(4, 0)");
        says("Promise 15", "NONE: STATUS 5");
        refused(EMPTY_DECK, NONE, 5, "scan(0, 9)", "scan(3, 0)");
        refused("", NONE, 5, "scan(0, 0)", "scan(3, 0)");
        says("Promise 15", "NONE: STATUS 2");
        refused(PLAYED + "thread(1) ", NONE, 2, "scan(1, 0)", "scan(3, 0)");
        refused(PLAYED + "strip(0, 0) " + at(-9), NONE, 2, "scan(0, 0)", "scan(0, 9)");
    }

    // Promise 16

    private static void sheetOfRows() {
        says("Promise 16", "THE SHEET has n rows of m cells, all 0, in place of what it was: n * m");
        done(PLAYED, "sheet(2, 3)", 6, "row 0=0 0 0", "row 1=0 0 0");
        done(PLAYED, "sheet(1, 1)", 1, "rows=1", "cells=1", "row 0=0", "row 1 gone");
        done(PLAYED, "sheet(3, 2)", 6, "rows=3", "cells=2", "row 0=0 0", "row 1=0 0", "row 2=0 0");
        done(NO_SHEET, "sheet(1, 16)", 16, "rows=1", "cells=16", "row 0=" + times(16, 0));
        done("", "sheet(16, 1)", 16, sheetOfZeros(16, 1));
        done("", "sheet(15, 15)", 225, sheetOfZeros(15, 15));
        done("", "sheet(16, 16)", 256, sheetOfZeros(16, 16));
        answers("sheet(16, 16) cue(15, 15, 9) cue(15, 0, 8) cue(0, 15, 7) sheet(1, 1) ", "sheet(16, 16) = 256",
            "cue(15, 15, 1) = 0", "cue(15, 0, 1) = 0", "cue(0, 15, 1) = 0");
    }

    private static String[] sheetOfZeros(int rows, int cells) {
        List<String> seen = new ArrayList<>(List.of("rows=" + rows, "cells=" + cells));
        for (int r = 0; r < rows; r++) {
            seen.add("row " + r + "=" + times(cells, 0));
        }
        return seen.toArray(new String[0]);
    }

    private static void sheetOfNothing() {
        says("Promise 16", "n rows of m cells: none of either");
        done(PLAYED, "sheet(0, 0)", 0, "rows=0", "cells=0", "row 0 gone", "row 1 gone");
        done(PLAYED, "sheet(0, 3)", 0, "rows=0", "row 0 gone", "row 1 gone");
        done(PLAYED, "sheet(0, 16)", 0, "rows=0", "cells=16", "row 0 gone", "row 1 gone");
        done(PLAYED, "sheet(2, 0)", 0, "cells=0", "row 0=", "row 1=");
        done("", "sheet(0, 0)", 0, "rows=0", "cells=0");
        answers("", "sheet(0, 5) = 0", "cue(0, 0, 1) = 0 : 3", "seek(0, 0) = 0 : 3",
            "sheet(5, 0) = 0", "cue(0, 0, 1) = 0 : 3", "seek(4, 0) = 0 : 3");
    }

    private static void sheetTooLarge() {
        says("Promise 16", "NONE, THE SHEET being as it was: STATUS 1: n or m is above 16");
        String deck = PLAYED + "wind(0) ";
        refused(deck, NONE, 1, "sheet(17, 1)", "sheet(1, 17)", "sheet(17, 17)", "sheet(17, 0)", "sheet(0, 17)",
            "sheet(MAX, 1)", "sheet(1, MAX)", "sheet(MAX, MAX)");
        refused("", NONE, 1, "sheet(17, 16)", "sheet(16, 17)");
        says("Promise 16", "STATUS 1; then 4");
        refused(deck, NONE, 1, "sheet(17, -1)", "sheet(-1, 17)", "sheet(MIN, 17)", "sheet(17, MIN)");
    }

    private static void sheetBelowZero() {
        says("Promise 16", "NONE, THE SHEET being as it was: then 4");
        String deck = PLAYED + "wind(0) ";
        refused(deck, NONE, 4, "sheet(-1, 1)", "sheet(1, -1)", "sheet(-1, -1)", "sheet(0, -1)", "sheet(-1, 0)",
            "sheet(16, -1)", "sheet(-1, 16)", "sheet(MIN, 1)", "sheet(1, MIN)", "sheet(MIN, MIN)");
        refused("", NONE, 4, "sheet(-1, 0)", "sheet(0, -1)");
    }

    // Promise 17

    private static void cueOfACell() {
        says("Promise 17", "A cell of THE SHEET gets v: what it had");
        done(PLAYED, "cue(0, 0, MAX)", 5, "row 0=" + MAX + " 0 0");
        done(PLAYED, "cue(0, 2, MIN)", 0, "row 0=5 0 " + MIN);
        done(PLAYED, "cue(1, 0, -1)", 0, "row 1=-1 0 -6");
        done(PLAYED, "cue(1, 2, 0)", -6, "row 1=0 0 0");
        unchanging(PLAYED, -6, "cue(1, 2, -6)");
        answers("sheet(16, 16) ", "cue(15, 15, MIN) = 0", "cue(15, 15, MAX) = MIN", "cue(15, 15, 0) = MAX",
            "cue(0, 15, 1) = 0", "cue(15, 0, 2) = 0", "cue(1, 0, 3) = 0", "cue(14, 15, 4) = 0",
            "cue(0, 15, 0) = 1", "cue(15, 0, 0) = 2", "cue(1, 0, 0) = 3", "cue(14, 15, 0) = 4");
    }

    private static void cueRefused() {
        says("Promise 17", "0: STATUS 2");
        refused(NO_SHEET, 0, 2, "cue(0, 0, 1)", "cue(-1, 0, 1)", "cue(0, MAX, 1)");
        refused("", 0, 2, "cue(0, 0, 1)");
        says("Promise 17", "0: STATUS 3");
        refused(PLAYED, 0, 3, "cue(2, 0, 1)", "cue(0, 3, 1)", "cue(-1, 0, 1)", "cue(0, -1, 1)", "cue(1, -1, 1)",
            "cue(1, 3, 1)", "cue(2, 3, 1)", "cue(-1, -1, 1)", "cue(MAX, 0, 1)", "cue(0, MAX, 1)", "cue(MIN, 0, 1)",
            "cue(0, MIN, 1)");
        answers("sheet(16, 16) ", "cue(16, 0, 1) = 0 : 3", "cue(0, 16, 1) = 0 : 3", "cue(15, 16, 1) = 0 : 3",
            "cue(16, 15, 1) = 0 : 3", "cue(16, -1, 1) = 0 : 3", "cue(-1, 16, 1) = 0 : 3");
    }

    // Promise 18

    private static void seekOfACell() {
        says("Promise 18", "p becomes the number of a cell of THE SHEET: p");
        done(PLAYED, "seek(0, 0)", 5, "p=5");
        done(PLAYED, "seek(1, 2)", -6, "p=-6");
        done(PLAYED, "seek(0, 2)", 0, "p=0");
        done(PLAYED, "seek(1, 0)", 0, "p=0");
        done(PLAYED + "cue(1, 1, MAX) ", "seek(1, 1)", MAX, "p=" + MAX);
        done(PLAYED + "cue(1, 1, MIN) ", "seek(1, 1)", MIN, "p=" + MIN);
        unchanging(PLAYED + "cue(1, 1, 1) ", 1, "seek(1, 1)");
        done("sheet(16, 16) cue(15, 15, 3) ", "seek(15, 15)", 3, "p=3");
    }

    private static void seekRefused() {
        says("Promise 18", "STATUS 2: p as it was");
        refused(NO_SHEET, 5, 2, "seek(0, 0)", "seek(-1, 0)", "seek(0, MAX)");
        refused("", 0, 2, "seek(0, 0)");
        says("Promise 18", "STATUS 3: p as it was");
        refused(PLAYED, 1, 3, "seek(2, 0)", "seek(0, 3)", "seek(-1, 0)", "seek(0, -1)", "seek(1, -1)", "seek(1, 3)",
            "seek(2, 3)", "seek(-1, -1)", "seek(MAX, 0)", "seek(0, MAX)", "seek(MIN, 0)", "seek(0, MIN)");
        refused(PLAYED + at(MIN), MIN, 3, "seek(2, 0)");
        answers("wind(4) sheet(16, 16) ", "seek(16, 0) = 4 : 3", "seek(0, 16) = 4 : 3", "seek(15, 16) = 4 : 3",
            "seek(16, 15) = 4 : 3", "seek(16, -1) = 4 : 3", "seek(-1, 16) = 4 : 3");
    }

    // Promise 19

    private static void tripOfTheLatestRun() {
        says("Promise 19", "THE TRIP of the latest run() that had STATUS 0, 2 or 3");
        answers(PLAYED, "trip(0) = 1", "trip(1) = 3", "run(2) = 1 : 3", "trip(0) = 0", "trip(1) = 3",
            "thread(2) = 0", "run(1) = 0 : 2", "trip(0) = 0", "trip(1) = 2",
            "thread(1) = 2", "run(1) = 0 : 2", "trip(0) = 1", "trip(1) = 2");
        answers(PLAYED + "thread(2) arm(0, 0) arm(1, 0) arm(2, 0) arm(3, 1) ", "run(1) = 0 : 2", "trip(0) = 3",
            "trip(1) = 2", "arm(3, 0) = 1", "trip(0) = 3", "run(1) = 1", "trip(0) = NONE", "trip(1) = 0");
        says("Promise 19", "a run() that had STATUS 1 or 5 leaves THE TRIP");
        answers(PLAYED, "run(0) = 0 : 1", "run(101) = 0 : 1", "trip(0) = 1", "trip(1) = 3",
            "thread(NONE) = 0", "run(1) = 0 : 5", "trip(0) = 1", "trip(1) = 3");
        says("Promise 19", "THE TRIP of the latest run(): other calls that fail leave it");
        answers(PLAYED + at(9), "read(0) = 0 : 3", "write(0, 1) = 0 : 3", "turn(0, 2) = 0 : 3", "scan(0, 0) = NONE : 3",
            "dub(2, 0, 0, 1, 0, 0) = 0 : 2", "trip(0) = 1", "trip(1) = 3");
    }

    private static void tripWithoutOne() {
        says("Promise 19", "NONE and 0 without one (there was no run())");
        answers("", "trip(0) = NONE", "trip(1) = 0", "run(0) = 0 : 1", "run(1) = 0 : 5", "trip(0) = NONE",
            "trip(1) = 0");
        says("Promise 19", "NONE and 0 without one (all TICKS were whole)");
        answers(PLAYED, "run(1) = 1", "trip(0) = NONE", "trip(1) = 0");
    }

    private static void tripOfAnotherWhat() {
        says("Promise 19", "NONE for another what");
        answers(PLAYED, "trip(-1) = NONE : 4", "trip(2) = NONE", "trip(3) = NONE", "trip(MAX) = NONE",
            "trip(MIN) = NONE : 4");
        answers("", "trip(-1) = NONE : 0", "trip(2) = NONE : 0");
    }

    // Promise 20

    private static void meterOfATrack() {
        says("Promise 20", "The METER of a TRACK");
        answers("reel(2, 15) thread(0) write(0, 65535) write(1, -32768) write(2, 32768) write(3, 1) wind(1)"
            + " write(0, 65535) write(1, -32768) write(2, 32768) write(3, 1) wind(-1)"
            + " arm(0, 1) arm(1, 1) arm(2, 1) arm(3, 1) ", "run(2) = 2", "meter(0) = 131070", "meter(1) = -65536",
            "meter(2) = 65536", "meter(3) = 2", "run(1) = 0 : 3", "meter(0) = 131070", "meter(3) = 2",
            "wind(-1) = 1", "run(1) = 1", "meter(0) = 196605", "meter(1) = -98304", "meter(2) = 98304",
            "meter(3) = 3");
        answers("reel(1, 4) thread(0) write(2, -32769) arm(2, 1) ", "run(1) = 1", "meter(2) = -32768");
        says("Promise 20", "The METER of a TRACK stays without the REEL, and without the TRACK");
        answers(PLAYED, "thread(NONE) = 0", "strip(0, 1) = 1", "meter(1) = -3", "meter(3) = 1");
    }

    private static void meterAsFarAsItGoes() {
        // 512 calls can't take a METER to where 32 bits wrap: half of that is the most.
        says("Promise 20", "The METER of a TRACK: as far as the calls of an object take it");
        Used used = new Used("reel(64, 15) thread(0) source(-1, 0) arm(0, 2) arm(1, 2) arm(2, 2) arm(3, 2) run(64)"
            + " arm(0, 1) arm(1, 1) arm(2, 1) arm(3, 1) ");
        for (int n = 0; n < 245; n++) {
            due("wind(-64)", used.tell("wind(-64)"), 0);
            due("run(64)", used.tell("run(64)"), 64);
        }
        int played = 245 * 64;
        int[] sums = {65535 * played, -played, -played, played};
        for (int track = 0; track < 4; track++) {
            due("meter(" + track + ")", used.tell("meter(" + track + ")"), sums[track]);
        }
    }

    private static void meterOfNone() {
        says("Promise 20", "0 for none such");
        answers(PLAYED + "run(1) ", "meter(-1) = 0 : 0", "meter(4) = 0 : 0", "meter(MAX) = 0", "meter(MIN) = 0");
        answers(PLAYED, "meter(-1) = 0 : 4", "meter(4) = 0 : 4");
    }

    // Promise 21

    private static void countOfAll() {
        says("Promise 21", "What 0: how many REELS there are");
        answers("", "count(0) = 0");
        answers(PLAYED, "count(0) = 3");
        answers(EIGHT_REELS, "count(0) = 8", "reel(1, 1) = NONE : 5", "count(0) = 8");
        says("Promise 21", "1 the one on THE DECK (NONE)");
        answers("", "count(1) = NONE");
        answers(PLAYED, "count(1) = 0", "thread(2) = 0", "count(1) = 2", "thread(NONE) = 2", "count(1) = NONE");
        answers(EIGHT_REELS + "thread(7) ", "count(1) = 7");
        says("Promise 21", "2 p");
        answers(PLAYED + at(MIN), "count(2) = MIN", "wind(-1) = MAX", "count(2) = MAX");
        says("Promise 21", "3 s");
        answers("source(MIN, 1) ", "count(3) = MIN", "source(MAX, 1) = MIN", "count(3) = MAX");
        says("Promise 21", "4 the rows of THE SHEET (NONE without one), 5 its cells in a row (NONE)");
        answers("", "count(4) = NONE", "count(5) = NONE", "sheet(17, 1) = NONE : 1", "sheet(-1, 1) = NONE : 4",
            "count(4) = NONE", "count(5) = NONE", "sheet(0, 0) = 0", "count(4) = 0", "count(5) = 0",
            "sheet(16, 1) = 16", "count(4) = 16", "count(5) = 1", "sheet(1, 16) = 16", "count(4) = 1",
            "count(5) = 16", "sheet(0, 7) = 0", "count(4) = 0", "count(5) = 7", "sheet(7, 0) = 0", "count(4) = 7",
            "count(5) = 0");
    }

    private static void countOfTracks() {
        says("Promise 21", "10 to 17: which TRACKS of REEL what - 10 are there, as bits");
        answers(EIGHT_REELS, "count(10) = 15", "count(11) = 5", "count(12) = 0", "count(13) = 1", "count(14) = 2",
            "count(15) = 4", "count(16) = 8", "count(17) = 1", "lay(7, 3) = 1", "count(17) = 9",
            "strip(7, 0) = 1", "count(17) = 8", "strip(7, 3) = 1", "count(17) = 0");
        says("Promise 21", "10 to 17 (NONE: there is no such REEL)");
        answers("", "count(10) = NONE", "count(17) = NONE");
        answers(PLAYED, "count(12) = 0", "count(13) = NONE", "count(17) = NONE");
        answers(SEVEN_REELS, "count(16) = 8", "count(17) = NONE");
    }

    private static void countOfAnotherWhat() {
        says("Promise 21", "NONE for another what");
        answers(EIGHT_REELS + "sheet(-1, 0) ", "count(-1) = NONE : 4", "count(6) = NONE", "count(7) = NONE",
            "count(8) = NONE", "count(9) = NONE : 4", "count(18) = NONE : 4", "count(19) = NONE", "count(-10) = NONE",
            "count(MAX) = NONE", "count(MIN) = NONE : 4", "count(-2147483639) = NONE", "count(-2147483638) = NONE");
        answers("", "count(-1) = NONE : 0", "count(6) = NONE : 0", "count(9) = NONE : 0", "count(18) = NONE : 0");
    }

    // Promise 22

    private static void statusOfTheLatestCall() {
        says("Promise 22", "STATUS, 0 at first");
        answers("", "status() = 0");
        says("Promise 22", "STATUS of the latest call but status(), trip(), meter(), count()");
        answers("", "sheet(-1, 0) = NONE : 4", "status() = 4", "trip(0) = NONE : 4", "trip(1) = 0 : 4",
            "trip(9) = NONE : 4", "meter(0) = 0 : 4", "meter(9) = 0 : 4", "count(0) = 0 : 4", "count(10) = NONE : 4",
            "count(99) = NONE : 4", "status() = 4");
        says("Promise 22", "0 it was done: each call mends the STATUS");
        String[] mending = {"reel(1, 1) = 3", "strip(1, 1) = 0", "lay(1, 1) = 1", "thread(0) = 0", "head(0, 1) = 1",
            "arm(0, 1) = 1", "source(1, 1) = 100", "wind(0) = 1", "read(0) = 9", "write(0, 1) = 1", "run(1) = 1",
            "dub(0, 0, 0, 0, 0, 0) = 0", "turn(0, 0) = 0", "scan(0, 9) = 0", "sheet(1, 1) = 1", "cue(0, 0, 1) = 5",
            "seek(0, 0) = 5"};
        for (String row : mending) {
            answers(PLAYED, "status() = 4", row);
        }
        says("Promise 22", "the calls that only ask change nothing");
        for (String call : new String[] {"trip(0)", "meter(1)", "count(2)", "status()", "trip(-1)", "meter(-1)",
            "count(-1)"}) {
            Used used = new Used(PLAYED);
            used.tell(call);
            Set<String> changed = changes(new Used(PLAYED).look(), used.look());
            if (!changed.isEmpty()) {
                wrong(call + " changed " + changed);
            }
        }
    }

    private static void allCallsOfAnObject() {
        says("What it is", "An object is used for at most 512 calls after it has been made");
        Used used = new Used("reel(64, 15) thread(0) source(1, 1) arm(2, 2) ");
        for (int n = 0; n < 127; n++) {
            due("wind(-1)", used.tell("wind(-1)"), -1);
            due("run(1)", used.tell("run(1)"), 0);
            due("wind(1)", used.tell("wind(1)"), 0);
            due("count(3)", used.tell("count(3)"), 1);
        }
        due("calls", used.calls, MOST_CALLS);
    }

    private static void terms() {
        theDeckOfTheTests();
        chars();
        shorts();
        levels();
        truths();
        allIsZeroAtFirst();
        reelsFromZeroOn();
        placesAreZeroAtFirst();
        placesOutside();
        headsStandApart();
        numbersWrap();
        aMissingTrackFails();
        aMissingTrackFailsFirst();
        aPlaceOutsideFails();
        modeNothing();
        modePlay();
        modeRecord();
        modeMix();
        mixedAsTheTrackHasIt();
        headsInTurn();
        aTickEndsWhereOneFails();
        whatCameBeforeInTheTickStays();
        whichStatusComesFirst();
        allCallsOfAnObject();
    }

    private static void reelsAndHeads() {
        newObject();
        reelOfALength();
        reelByBits();
        reelsAreEight();
        stripOfOneThere();
        stripOfOneMissing();
        stripRefused();
        layOfOneMissing();
        layOfOneThere();
        layRefused();
        threadOfAReel();
        threadOfNone();
        threadRefused();
        headOffsets();
        headRefused();
        armModes();
        armRefused();
        source();
        windBy();
        windWraps();
        windRefused();
    }

    private static void tracks() {
        readAtTheHead();
        readRefused();
        writeAtTheHead();
        writeRefused();
        runTicks();
        runUpToOneThatFails();
        runRefused();
        dubOfSoMany();
        dubRefused();
        dubLoads();
        dubStores();
        dubLoadsFirst();
        dubOnTheSame();
        dubAsTheTrackHasIt();
        dubNeedsNoHead();
        turnOfPairs();
        turnOfNoPair();
        turnFails();
        turnRefused();
        scanBehindTheHead();
        scanOfVAsTold();
        scanUpToTheFirstOutside();
        scanRefused();
    }

    private static void sheetAndAsking() {
        sheetOfRows();
        sheetOfNothing();
        sheetTooLarge();
        sheetBelowZero();
        cueOfACell();
        cueRefused();
        seekOfACell();
        seekRefused();
        tripOfTheLatestRun();
        tripWithoutOne();
        tripOfAnotherWhat();
        meterOfATrack();
        meterAsFarAsItGoes();
        meterOfNone();
        countOfAll();
        countOfTracks();
        countOfAnotherWhat();
        statusOfTheLatestCall();
    }

    public static void main(String[] args) {
        terms();
        reelsAndHeads();
        tracks();
        sheetAndAsking();
        System.out.println(wrong == 0 ? "all boundary cases are as due" : wrong + " answers are not as due");
        if (wrong != 0) {
            System.exit(1);
        }
    }
}
