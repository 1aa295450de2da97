import java.util.Random;

/**
 * Long runs of calls against a second deck, written another way: tracks of Java's own types, null
 * for what is missing, and the machine's exceptions in place of tests. The seed is fixed.
 */
public final class FourTrackDeckAgainstModel {
    private static final int OBJECTS = 4000;
    private static final int CALLS = 512;
    private static final int SHOWN = 20;
    private static final int[] EDGES = {Integer.MIN_VALUE, Integer.MIN_VALUE + 1, -65537, -65536, -32769, -32768,
        -1001, -1000, -9, -8, -2, -1, 0, 1, 2, 3, 4, 5, 7, 8, 9, 10, 15, 16, 17, 18, 63, 64, 65, 100, 101, 1000, 1001,
        32767, 32768, 65535, 65536, Integer.MAX_VALUE - 1, Integer.MAX_VALUE};

    /** One reel, its tracks null where missing. */
    private static final class Tape {
        final int length;
        char[] chars;
        short[] shorts;
        double[] levels;
        boolean[] truths;

        Tape(int length, int there) {
            this.length = length;
            for (int k = 0; k < 4; k++) {
                if ((there & (1 << k)) != 0) {
                    make(k);
                }
            }
        }

        boolean has(int k) {
            return k == 0 ? chars != null : k == 1 ? shorts != null : k == 2 ? levels != null : truths != null;
        }

        void make(int k) {
            switch (k) {
                case 0 -> chars = new char[length];
                case 1 -> shorts = new short[length];
                case 2 -> levels = new double[length];
                default -> truths = new boolean[length];
            }
        }

        void drop(int k) {
            switch (k) {
                case 0 -> chars = null;
                case 1 -> shorts = null;
                case 2 -> levels = null;
                default -> truths = null;
            }
        }

        int load(int k, int place) {
            return switch (k) {
                case 0 -> chars[place];
                case 1 -> shorts[place];
                case 2 -> (int) (levels[place] * 8);
                default -> truths[place] ? 1 : 0;
            };
        }

        void store(int k, int place, int v) {
            switch (k) {
                case 0 -> chars[place] = (char) v;
                case 1 -> shorts[place] = (short) v;
                case 2 -> levels[place] = Math.max(-4096.0, Math.min(4096.0, v / 8.0));
                default -> truths[place] = v % 2 != 0;
            }
        }
    }

    /** The second deck: one method that takes a call by its number. */
    private static final class Model {
        final Tape[] tapes = new Tape[8];
        int made;
        int deck = -1;
        int p;
        int s;
        int step;
        final int[] offset = new int[4];
        final int[] mode = new int[4];
        final int[] meter = new int[4];
        int[][] sheet;
        int width;
        int tripTrack = -1;
        int tripStatus;
        int status;
        int done;

        static boolean out(int v, int least, int most) {
            return v < least || v > most;
        }

        boolean noReel(int r) {
            return out(r, 0, made - 1);
        }

        static boolean noTrack(int t) {
            return out(t, 0, 3);
        }

        int fail(int why, int answer) {
            status = why;
            return answer;
        }

        /** STATUS 1 and 5 of a call, 0 if neither fits. */
        int barred(int call, int[] a) {
            boolean no = switch (call) {
                case 0 -> out(a[0], 1, 64) || out(a[1], 0, 15);
                case 1, 2 -> noReel(a[0]) || noTrack(a[1]);
                case 3 -> a[0] != -1 && noReel(a[0]);
                case 4 -> noTrack(a[0]) || out(a[1], -8, 8);
                case 5 -> noTrack(a[0]) || out(a[1], 0, 3);
                case 7 -> out(a[0], -1000, 1000);
                case 8, 9, 13 -> noTrack(a[0]);
                case 10 -> out(a[0], 1, 100);
                case 11 -> noReel(a[0]) || noTrack(a[1]) || out(a[3], 0, 64) || noReel(a[4]) || noTrack(a[5]);
                case 12 -> noTrack(a[0]) || out(a[1], 0, 64);
                case 14 -> a[0] > 16 || a[1] > 16;
                default -> false;
            };
            if (no) {
                return 1;
            }
            boolean needsDeck = call == 8 || call == 9 || call == 10 || call == 12 || call == 13;
            return call == 0 && made == 8 || needsDeck && deck == -1 ? 5 : 0;
        }

        int barredAnswer(int call) {
            return switch (call) {
                case 0, 1, 2, 3, 13, 14 -> -1;
                case 7 -> p;
                default -> 0;
            };
        }

        int answer(int call, int[] a) {
            if (call >= 17) {
                return call == 20 ? status : asked(call, a[0]);
            }
            int bar = barred(call, a);
            if (bar != 0) {
                return fail(bar, barredAnswer(call));
            }
            status = 0;
            done = 0;
            try {
                return act(call, a);
            } catch (NullPointerException e) {
                return fail(2, failedAnswer(call));
            } catch (ArrayIndexOutOfBoundsException e) {
                return fail(3, failedAnswer(call));
            } catch (NegativeArraySizeException e) {
                return fail(4, -1);
            }
        }

        int failedAnswer(int call) {
            return switch (call) {
                case 10, 11, 12 -> done;
                case 13 -> -1;
                case 16 -> p;
                default -> 0;
            };
        }

        int act(int call, int[] a) {
            int old;
            switch (call) {
                case 0:
                    tapes[made] = new Tape(a[0], a[1]);
                    return made++;
                case 1:
                    old = tapes[a[0]].has(a[1]) ? 1 : 0;
                    tapes[a[0]].drop(a[1]);
                    return old;
                case 2:
                    old = tapes[a[0]].has(a[1]) ? 0 : 1;
                    tapes[a[0]].make(a[1]);
                    return old;
                case 3:
                    old = deck;
                    deck = a[0];
                    return old;
                case 4:
                    old = offset[a[0]];
                    offset[a[0]] = a[1];
                    return old;
                case 5:
                    old = mode[a[0]];
                    mode[a[0]] = a[1];
                    return old;
                case 6:
                    old = s;
                    s = a[0];
                    step = a[1];
                    return old;
                case 7:
                    p += a[0];
                    return p;
                case 14:
                    sheet = new int[a[0]][a[1]];
                    width = a[1];
                    return a[0] * a[1];
                case 15:
                    old = sheet[a[0]][a[1]];
                    sheet[a[0]][a[1]] = a[2];
                    return old;
                case 16:
                    p = sheet[a[0]][a[1]];
                    return p;
                default:
                    return onTape(call, a);
            }
        }

        int onTape(int call, int[] a) {
            switch (call) {
                case 8:
                    return tapes[deck].load(a[0], p + offset[a[0]]);
                case 9:
                    tapes[deck].store(a[0], p + offset[a[0]], a[1]);
                    return tapes[deck].load(a[0], p + offset[a[0]]);
                case 10:
                    return ticks(a[0]);
                case 11:
                    for (; done < a[3]; done++) {
                        int v = tapes[a[0]].load(a[1], a[2] + done);
                        tapes[a[4]].store(a[5], p + done, v);
                    }
                    return done;
                case 12:
                    for (int h = p + offset[a[0]]; done < a[1] / 2; done++) {
                        int one = tapes[deck].load(a[0], h + done);
                        int two = tapes[deck].load(a[0], h + a[1] - 1 - done);
                        tapes[deck].store(a[0], h + done, two);
                        tapes[deck].store(a[0], h + a[1] - 1 - done, one);
                    }
                    return done;
                default:
                    int k = 0;
                    while (tapes[deck].load(a[0], p + offset[a[0]] + k) != a[1]) {
                        k++;
                    }
                    return k;
            }
        }

        int ticks(int n) {
            tripTrack = -1;
            tripStatus = 0;
            int track = 0;
            try {
                for (; done < n; done++) {
                    for (track = 0; track < 4; track++) {
                        oneHead(tapes[deck], track, p + offset[track]);
                    }
                    p++;
                }
                return done;
            } catch (NullPointerException e) {
                tripStatus = 2;
            } catch (ArrayIndexOutOfBoundsException e) {
                tripStatus = 3;
            }
            tripTrack = track;
            return fail(tripStatus, done);
        }

        void oneHead(Tape tape, int track, int place) {
            switch (mode[track]) {
                case 1 -> meter[track] += tape.load(track, place);
                case 2 -> {
                    tape.store(track, place, s);
                    s += step;
                }
                case 3 -> {
                    tape.store(track, place, tape.load(track, place) + s);
                    s += step;
                }
                default -> { }
            }
        }

        int asked(int call, int what) {
            if (call == 17) {
                return what == 0 ? tripTrack : what == 1 ? tripStatus : -1;
            }
            if (call == 18) {
                return noTrack(what) ? 0 : meter[what];
            }
            if (what >= 10 && what <= 17 && what - 10 < made) {
                int bits = 0;
                for (int k = 0; k < 4; k++) {
                    bits += tapes[what - 10].has(k) ? 1 << k : 0;
                }
                return bits;
            }
            return switch (what) {
                case 0 -> made;
                case 1 -> deck;
                case 2 -> p;
                case 3 -> s;
                case 4 -> sheet == null ? -1 : sheet.length;
                case 5 -> sheet == null ? -1 : width;
                default -> -1;
            };
        }
    }

    private static final String[] NAMES = {"reel", "strip", "lay", "thread", "head", "arm", "source", "wind", "read",
        "write", "run", "dub", "turn", "scan", "sheet", "cue", "seek", "trip", "meter", "count", "status"};

    /** What the arguments of each call mostly are: pairs of the least and the greatest. */
    private static final int[][] RANGES = {{1, 12, 0, 15}, {0, 3, 0, 3}, {0, 3, 0, 3}, {-1, 3}, {0, 3, -2, 2},
        {0, 3, 0, 3}, {-70000, 70000, -5, 5}, {-6, 5}, {0, 3}, {0, 3, -70000, 70000}, {1, 9},
        {0, 3, 0, 3, -1, 9, 0, 9, 0, 3, 0, 3}, {0, 3, 0, 9}, {0, 3, -1, 2}, {-1, 4, -1, 4}, {0, 3, 0, 3, -1, 9},
        {0, 3, 0, 3}, {0, 1}, {0, 3}, {0, 17}, {}};

    private static int answerOf(FourTrackDeck x, int call, int[] a) {
        return switch (call) {
            case 0 -> x.reel(a[0], a[1]);
            case 1 -> x.strip(a[0], a[1]);
            case 2 -> x.lay(a[0], a[1]);
            case 3 -> x.thread(a[0]);
            case 4 -> x.head(a[0], a[1]);
            case 5 -> x.arm(a[0], a[1]);
            case 6 -> x.source(a[0], a[1]);
            case 7 -> x.wind(a[0]);
            case 8 -> x.read(a[0]);
            case 9 -> x.write(a[0], a[1]);
            case 10 -> x.run(a[0]);
            case 11 -> x.dub(a[0], a[1], a[2], a[3], a[4], a[5]);
            case 12 -> x.turn(a[0], a[1]);
            case 13 -> x.scan(a[0], a[1]);
            case 14 -> x.sheet(a[0], a[1]);
            case 15 -> x.cue(a[0], a[1], a[2]);
            case 16 -> x.seek(a[0], a[1]);
            case 17 -> x.trip(a[0]);
            case 18 -> x.meter(a[0]);
            case 19 -> x.count(a[0]);
            default -> x.status();
        };
    }

    private static int[] arguments(Random random, int call, int oddOnes) {
        int[] range = RANGES[call];
        int[] a = new int[range.length / 2];
        for (int k = 0; k < a.length; k++) {
            boolean odd = random.nextInt(100) < oddOnes;
            a[k] = odd ? EDGES[random.nextInt(EDGES.length)]
                : range[2 * k] + random.nextInt(range[2 * k + 1] - range[2 * k] + 1);
        }
        return a;
    }

    private static String told(int call, int[] a) {
        StringBuilder text = new StringBuilder(NAMES[call]).append('(');
        for (int k = 0; k < a.length; k++) {
            text.append(k == 0 ? "" : ", ").append(a[k]);
        }
        return text.append(')').toString();
    }

    /** True if the whole run agreed. */
    private static boolean agrees(int run, Random random) {
        FourTrackDeck x = new FourTrackDeck();
        Model model = new Model();
        int oddOnes = run % 4 * 5;
        for (int n = 0; n < CALLS / 2; n++) {
            int call = n < 2 ? 0 : random.nextInt(NAMES.length);
            int[] a = arguments(random, call, oddOnes);
            int want = model.answer(call, a);
            int got = answerOf(x, call, a);
            if (got != want || x.status() != model.status) {
                System.out.println("run " + run + ", call " + n + ": " + told(call, a) + " answered " + got
                    + " with status " + x.status() + ", due is " + want + " with " + model.status);
                return false;
            }
        }
        return true;
    }

    public static void main(String[] args) {
        Random random = new Random(20261116L);
        int wrong = 0;
        for (int run = 0; run < OBJECTS && wrong < SHOWN; run++) {
            if (!agrees(run, random)) {
                wrong++;
            }
        }
        System.out.println(wrong == 0 ? "all runs agree with the model" : wrong + " runs do not agree with the model");
        if (wrong != 0) {
            System.exit(1);
        }
    }
}
