import java.io.IOException;
import java.nio.file.Files;
import java.nio.file.Path;
import java.util.ArrayList;
import java.util.Arrays;
import java.util.List;

/**
 * What the edge tests share. Each check is made on an object of its own, so that none leans on what another one left
 * and none comes near the 512 calls behind which an object's answers are free.
 */
final class Edge {
    static final int BAD = -1, FULL = -2, FINDING = -3, STATE = -4, NONE = -9;
    static final int NOTHING = 1, BEYOND = 2, UNLIKE = 3, NOUGHT = 4, SIZE = 5;
    static final int LOW = Integer.MIN_VALUE, HIGH = Integer.MAX_VALUE;

    /** All cells of the rings show figures that tell them apart. */
    static final String PLAIN = "b0b1b2b3b4b5b6b7b8b9b0b1b2b3";
    static final String NOUGHTS = "b0b0b0b0b0b0b0b0b0b0b0b0b0b0";

    interface Setup {
        void on(CrossedRings x);

        default Setup then(Setup next) {
            return x -> {
                on(x);
                next.on(x);
            };
        }
    }

    interface Call {
        long of(CrossedRings x);
    }

    static final Setup NEW = x -> { };

    static int wrong = 0;
    static int checks = 0;
    private static String words = "";
    private static String document = null;

    // ---- how it begins and ends

    /** The words of the document that the checks from here on hold to: they must stand there. */
    static void sentence(int promise, String quoted) {
        words = (promise == 0 ? "" : "promise " + promise + ", ") + "'" + quoted + "'";
        if (!sectionOf(promise).contains(quoted)) fail("the document does not say so");
    }

    private static String sectionOf(int promise) {
        if (document == null) {
            try {
                document = Files.readString(Path.of("../shared/DOC.md")).replaceAll("\\s+", " ");
            } catch (IOException e) {
                document = "";
            }
        }
        int from = promise == 0 ? 0 : document.indexOf("## Promise " + promise + ":");
        if (from < 0) return "";
        int to = document.indexOf("## ", from + 3);
        return promise == 0 || to < 0 ? document.substring(from) : document.substring(from, to);
    }

    static void end(String name) {
        System.out.println(name + ": " + checks + " checks, " + wrong + " answers not as due");
        if (wrong != 0) System.exit(1);
    }

    private static void fail(String what) {
        wrong++;
        System.out.println(words + ": " + what);
    }

    // ---- checks

    static void due(String call, long got, long want) {
        checks++;
        if (got != want) fail(call + " answered " + got + ", due is " + want);
    }

    static CrossedRings made(Setup s) {
        CrossedRings x = new CrossedRings();
        s.on(x);
        return x;
    }

    static void gives(String call, Setup s, Call c, long want) {
        due(call, c.of(made(s)), want);
    }

    /** A call that answers 1 and tells by asked(). */
    static void tells(String call, Setup s, Call c, int want) {
        CrossedRings x = made(s);
        due(call, c.of(x), 1);
        due(call + ", then asked()", x.asked(), want);
    }

    static void shares(String call, Setup s, Call c, long upper, long lower) {
        CrossedRings x = made(s);
        due(call, c.of(x), 1);
        due(call + ", then upper()", x.upper(), upper);
        due(call + ", then lower()", x.lower(), lower);
    }

    /** The row is there, with just these ints. */
    static void lies(String when, Setup s, int r, int... values) {
        CrossedRings x = made(s);
        for (int i = 0; i < values.length; i++) {
            due(when + ": at(" + r + ", " + i + ")", x.at(r, i), 1);
            due(when + ": at(" + r + ", " + i + "), then asked()", x.asked(), values[i]);
        }
        due(when + ": at(" + r + ", its size)", x.at(r, values.length), FINDING);
        due(when + ": then finding()", x.finding(), BEYOND);
    }

    static void missing(String when, Setup s, int r) {
        finds(when + ": at(" + r + ", 0)", s, x -> x.at(r, 0), NOTHING);
    }

    /** Refused without a finding: nothing at all is changed. */
    static void refuses(String call, Setup s, Call c, int answer) {
        CrossedRings x = made(s);
        due(call, c.of(x), answer);
        same(call + " is refused", findings(x), findings(made(s)));
        same(call + " is refused", state(x), state(made(s)));
    }

    /** Refused by a finding: nothing but finding() and findings() is changed. */
    static void finds(String call, Setup s, Call c, int finding) {
        CrossedRings x = made(s);
        due(call, c.of(x), FINDING);
        List<Long> want = findings(made(s));
        want.set(0, (long) finding);
        want.set(finding, want.get(finding) + 1);
        same(call + " is refused", findings(x), want);
        same(call + " is refused", state(x), state(made(s)));
    }

    /** NONE is no refusal, but leaves all as it was too. */
    static void none(String call, Setup s, Call c) {
        refuses(call, s, c, NONE);
    }

    /** Either leaves an object in the same state. */
    static void alike(String what, Setup one, Setup other) {
        CrossedRings x = made(one);
        CrossedRings y = made(other);
        same(what, state(x), state(y));
    }

    private static void same(String what, List<Long> got, List<Long> want) {
        checks++;
        if (!got.equals(want)) fail(what + ": left " + got + ", due is " + want);
    }

    private static List<Long> findings(CrossedRings x) {
        List<Long> seen = new ArrayList<>();
        seen.add((long) x.finding());
        for (int f = 1; f <= 5; f++) seen.add((long) x.findings(f));
        return seen;
    }

    /** All that calls can tell of an object but findings: also the deeds, one by one, and what is kept. */
    private static List<Long> state(CrossedRings x) {
        List<Long> seen = new ArrayList<>(Arrays.asList((long) x.asked(), x.upper(), x.lower(), x.digest()));
        for (int n = x.count(2) - 1; n >= 0; n--) {
            seen.add((long) x.undo(n));
            seen.add(x.digest());
        }
        for (int k = 0; k < 3; k++) {
            seen.add((long) x.on(k));
            seen.add(x.digest());
            int deeds = x.count(2);
            seen.add((long) x.undo(deeds / 2));
            seen.add(x.digest());
        }
        return seen;
    }

    // ---- what there is before a call

    static void write(CrossedRings x, int t, String s) {
        x.text(t, s.length());
        for (int i = 0; i < s.length(); i++) {
            if (s.charAt(i) != ' ') x.put(t, i, s.charAt(i));
        }
    }

    static Setup text(int t, String s) {
        return x -> write(x, t, s);
    }

    static Setup toy(String s) {
        return x -> {
            write(x, 0, s);
            due("toy of " + s, x.toy(0), 14);
        };
    }

    static Setup row(int r, int... values) {
        return x -> {
            x.row(r, values.length);
            for (int i = 0; i < values.length; i++) {
                if (values[i] != 0) x.lay(r, i, values[i]);
            }
        };
    }

    static Setup turns(int... moves) {
        return x -> {
            for (int move : moves) x.turn(move);
        };
    }

    /** So many exchanges of cells that bar nothing; an even number leaves all as it lay. */
    static Setup exchanges(int many) {
        return x -> {
            for (int k = 0; k < many; k++) due("exchange(2, 6), " + k, x.exchange(2, 6) >= 0 ? 1 : 0, 1);
        };
    }

    /** A toy with some items in place of its own: plain(4, "r4") has a root in cell 4. */
    static String but(String toy, Object... changes) {
        StringBuilder s = new StringBuilder(toy);
        for (int k = 0; k + 1 < changes.length; k += 2) {
            int at = 2 * (Integer) changes[k];
            s.replace(at, at + 2, (String) changes[k + 1]);
        }
        return s.toString();
    }

    static int[] repeat(int many, int... values) {
        int[] all = new int[many * values.length];
        for (int i = 0; i < all.length; i++) all[i] = values[i % values.length];
        return all;
    }

    static int[] with(int[] values, int i, int v) {
        int[] changed = values.clone();
        changed[i] = v;
        return changed;
    }

    static int[] upTo(int n) {
        int[] all = new int[n];
        for (int i = 0; i < n; i++) all[i] = i;
        return all;
    }
}
