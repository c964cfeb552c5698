import java.math.BigInteger;
import java.util.ArrayList;
import java.util.Arrays;
import java.util.List;
import java.util.Random;

/**
 * Runs of calls by chance, each answer compared with that of a slow model written apart from the class:
 * the model holds the toy as the list of its deeds and plays them anew for every question.
 */
public final class ModelTest {
    /** What is told is asked by ten calls each time: 320 and 19 times ten stay within the 512 calls of an object. */
    static final int RUNS = 2500, CALLS = 320, TOLD_EACH = 17;

    public static void main(String[] args) {
        int wrong = 0;
        for (int run = 0; run < RUNS && wrong < 10; run++) {
            wrong += oneRun(run);
        }
        System.out.println(wrong == 0 ? RUNS + " runs are as the model" : wrong + " runs differ from the model");
        if (wrong != 0) {
            System.exit(1);
        }
    }

    static int oneRun(int run) {
        Random random = new Random(1000003L * run + 17);
        CrossedRings x = new CrossedRings();
        Model m = new Model();
        Chooser chooser = new Chooser(random, m);
        StringBuilder log = new StringBuilder();
        for (int k = 0; k < CALLS; k++) {
            Call call = chooser.choose();
            long got = call.on(x);
            long due = call.on(m);
            log.append(call.name()).append(Arrays.toString(call.args())).append(" = ").append(got).append('\n');
            String more = k % TOLD_EACH == TOLD_EACH - 1 || k == CALLS - 1 ? others(x, m) : "";
            if (got != due || !more.isEmpty()) {
                System.out.println("run " + run + ", call " + k + ": " + call.name() + Arrays.toString(call.args())
                        + " answered " + got + ", due is " + due + more);
                System.out.println(log.length() > 3000 ? log.substring(log.length() - 3000) : log);
                return 1;
            }
        }
        return 0;
    }

    static String others(CrossedRings x, Model m) {
        String more = "";
        if (x.asked() != m.asked) more += "; asked() " + x.asked() + ", due " + m.asked;
        if (x.upper() != m.upper) more += "; upper() " + x.upper() + ", due " + m.upper;
        if (x.lower() != m.lower) more += "; lower() " + x.lower() + ", due " + m.lower;
        if (x.finding() != m.finding) more += "; finding() " + x.finding() + ", due " + m.finding;
        for (int f = 1; f <= 5; f++) {
            if (x.findings(f) != m.found[f]) more += "; findings(" + f + ") " + x.findings(f) + ", due " + m.found[f];
        }
        if (x.digest() != m.digest()) more += "; the digest differs";
        return more;
    }

    record Call(String name, int... args) {
        /** The class and the model have the same methods, all of ints. */
        long on(Object toy) {
            Class<?>[] types = new Class<?>[args.length];
            Arrays.fill(types, int.class);
            try {
                return (Integer) toy.getClass().getDeclaredMethod(name, types).invoke(toy, Arrays.stream(args).boxed().toArray());
            } catch (ReflectiveOperationException e) {
                throw new IllegalStateException(name, e);
            }
        }
    }

    /** Chooses calls by chance; some come in groups, so that texts become toys and rows become fit for a question. */
    static final class Chooser {
        final Random random;
        final Model model;
        final String letters;
        final List<Call> due = new ArrayList<>();

        Chooser(Random random, Model model) {
            this.random = random;
            this.model = model;
            String[] mixes = {"btwsgr", "bbbbtwg", "bbbbbbbbbbbs", "bbbtwgbbbbtwgr", "bg", "bttwwgg", "bbbbbbbbbbbbr"};
            this.letters = mixes[random.nextInt(mixes.length)];
        }

        int upTo(int most) {
            return random.nextInt(most + 1);
        }

        /** Mostly 0 .. most, now and then beside it. */
        int about(int most) {
            int k = random.nextInt(60);
            if (k == 0) return -1;
            if (k == 1) return most + 1;
            if (k == 2) return random.nextInt();
            if (k == 3) return random.nextBoolean() ? Integer.MIN_VALUE : Integer.MAX_VALUE;
            return upTo(most);
        }

        Call choose() {
            if (due.isEmpty()) {
                plan();
            }
            return due.remove(0);
        }

        void add(String name, int... args) {
            due.add(new Call(name, args));
        }

        void plan() {
            if (model.beads == null && random.nextInt(4) == 0 || random.nextInt(250) == 0) {
                planToy();
                return;
            }
            int k = random.nextInt(33);
            switch (k) {
                case 0 -> add("row", about(5), about(40));
                case 1 -> add("lay", about(5), about(12), random.nextInt(3) == 0 ? random.nextInt() : about(9));
                case 2 -> add("at", about(5), about(12));
                case 3 -> add("tear", about(5));
                case 4 -> add("copy", about(5), about(9), about(5), about(9), about(7));
                case 5 -> add("mean", about(5));
                case 6 -> add("text", about(3), about(60));
                case 7 -> add("put", about(3), about(30), random.nextInt(2) == 0 ? random.nextInt() : about(127));
                case 8 -> add("fault", about(3));
                case 9 -> add("toy", random.nextInt(5) == 0 ? about(3) : 9);
                case 10 -> add("bead", about(13), about(4));
                case 11 -> add("cell", about(13), about(1));
                case 12 -> add("mark", about(13), about(5));
                case 13, 14 -> add("turn", about(3));
                case 15 -> add("exchange", about(13), about(13));
                case 16 -> add("undo", random.nextInt(3) == 0 ? about(40) : Math.max(0, model.count(2) - upTo(3)));
                case 17 -> add("keep", about(2));
                case 18 -> add("on", about(2));
                case 19 -> add("shows", about(13), about(13), about(99), about(99));
                case 20 -> planMoves("run", about(5), 20);
                case 21 -> planMoves("rounds", about(5), random.nextInt(3) == 0 ? 20 : 4);
                case 22 -> add("fewest", about(13), about(9), about(5));
                case 23 -> planPicture();
                case 24, 25, 26 -> planPairs();
                case 27 -> add("duel", random.nextInt(8) == 0 ? about(3) : about(1));
                case 28 -> planMoves("odds", about(5), 8);
                case 29 -> planMoves("mid", about(5), 8);
                case 30 -> add("lots", random.nextInt(2) == 0 ? about(20) : 1 + upTo(4), random.nextInt(4) == 0 ? about(9) : random.nextInt() & Integer.MAX_VALUE);
                case 31 -> add("count", about(11));
                default -> add("findings", about(6));
            }
        }

        void planToy() {
            StringBuilder s = new StringBuilder();
            blanks(s);
            int many = random.nextInt(8) == 0 ? 13 + upTo(2) : 14;
            for (int i = 0; i < many; i++) {
                s.append(letters.charAt(random.nextInt(letters.length()))).append((char) ('0' + upTo(9)));
                blanks(s);
            }
            if (random.nextInt(3) == 0) {
                s.setCharAt(random.nextInt(s.length()), "bx/:0 9".charAt(upTo(6)));
            }
            if (random.nextInt(9) == 0) {
                s.setLength(s.length() - 1);
            }
            int size = Math.min(60, s.length());
            int t = upTo(3);
            add("text", t, size);
            for (int i = 0; i < size; i++) {
                if (s.charAt(i) != ' ') {
                    add("put", t, i, s.charAt(i) + (random.nextInt(50) == 0 ? 256 : 0));
                }
            }
            add("fault", t);
            add("toy", t);
        }

        void blanks(StringBuilder s) {
            for (int k = random.nextInt(8) == 0 ? 2 : 0; k > 0; k--) {
                s.append(' ');
            }
        }

        void planMoves(String name, int r, int most) {
            if (random.nextInt(3) != 0) {
                int size = random.nextInt(12) == 0 ? about(most) : 1 + upTo(Math.min(most - 1, 5));
                add("row", r, size);
                for (int i = 0; i < size && i < 40; i++) {
                    add("lay", r, i, random.nextInt(150) == 0 ? about(4) : upTo(3));
                }
            }
            switch (name) {
                case "run" -> add("run", r, about(5));
                case "rounds" -> add("rounds", r);
                case "odds" -> add("odds", r, about(13), about(9), about(12));
                default -> add("mid", r, about(13), about(12));
            }
        }

        /** A picture of what some moves lead to, with gaps, now and then spoilt. */
        void planPicture() {
            int r = about(5);
            if (random.nextInt(4) != 0) {
                add("row", r, random.nextInt(20) == 0 ? about(20) : 14);
                Model.State s = model.beads == null ? null : model.now();
                for (int k = upTo(4); s != null && k > 0; k--) {
                    int move = upTo(3);
                    if (!s.barred(move)) s = s.moved(move);
                }
                for (int c = 0; c < 14; c++) {
                    int shown = s == null ? upTo(9) : s.showIn(c);
                    add("lay", r, c, random.nextInt(3) == 0 ? -1 : random.nextInt(120) == 0 ? about(9) : shown);
                }
            }
            add("picture", r, about(5));
            if (random.nextBoolean()) add("which", r);
        }

        /** What a bead of some kind and colour would show, now and then spoilt. */
        void planPairs() {
            int r = about(5);
            int i = about(13);
            if (random.nextInt(4) != 0) {
                int pairs = random.nextInt(6) == 0 ? upTo(9) : upTo(4);
                int size = random.nextInt(25) == 0 ? 2 * pairs + 1 : 2 * pairs;
                add("row", r, size);
                Model.State s = model.beads == null || i < 0 || i > 13 ? null : model.now();
                if (s != null && random.nextBoolean()) s = s.withKind(i, upTo(5));
                if (s != null && random.nextInt(3) == 0) s = s.withColour(i, upTo(9));
                for (int k = 0; k < size; k += 2) {
                    int move = upTo(3);
                    if (s != null && s.barred(move) && random.nextInt(4) != 0) move ^= 2;
                    if (s != null && !s.barred(move)) s = s.moved(move);
                    add("lay", r, k, random.nextInt(150) == 0 ? about(4) : move);
                    int shown = s == null ? upTo(9) : s.showIn(s.cells.indexOf(i));
                    add("lay", r, k + 1, random.nextInt(100) == 0 ? about(10) : shown);
                }
            }
            add("kinds", i, r);
            add("next", i, r);
            add("colours", i, r);
        }
    }

    static final class Model {
        static final List<Integer> ONE = List.of(0, 1, 2, 3, 4, 5, 6, 7);
        static final List<Integer> TWO = List.of(0, 8, 9, 10, 4, 11, 12, 13);

        /** A bead as it was told. */
        record Bead(int kind, int colour) { }

        /** cells: bead by cell; borne: by bead. Never changed, always made anew. */
        record State(List<Bead> beads, List<Integer> cells, List<Integer> borne, int turns) {
            int showIn(int c) {
                int i = cells.get(c);
                return show(beads.get(i), c, borne.get(i), turns);
            }

            static int show(Bead bead, int c, int borne, int turns) {
                int tint = bead.colour;
                for (int k = 0; k < borne; k++) tint = tint == 9 ? 0 : tint + 1;
                int worn = bead.colour;
                for (int k = 4; k <= turns; k += 4) if (worn > 0) worn--;
                if (bead.kind == 1) return tint;
                if (bead.kind == 2) return worn;
                if (bead.kind == 4) return c == 0 || c == 4 ? 0 : tint;
                return bead.colour;
            }

            int kindIn(int c) {
                return beads.get(cells.get(c)).kind;
            }

            boolean barred(int move) {
                if (move < 2) return kindIn(4) == 5;
                return List.of(3, 5).contains(kindIn(0)) || List.of(3, 5).contains(kindIn(4));
            }

            State moved(int move) {
                List<Integer> ring = move < 2 ? ONE : TWO;
                List<Integer> to = new ArrayList<>(cells);
                List<Integer> carried = new ArrayList<>(borne);
                for (int k = 0; k < 8; k++) {
                    int i = cells.get(ring.get(k));
                    int goal = move % 2 == 0 ? (k == 7 ? 0 : k + 1) : (k == 0 ? 7 : k - 1);
                    to.set(ring.get(goal), i);
                    if (move > 1) carried.set(i, carried.get(i) + 1);
                }
                return new State(beads, to, carried, turns + 1);
            }

            State exchanged(int c, int d) {
                List<Integer> to = new ArrayList<>(cells);
                to.set(c, cells.get(d));
                to.set(d, cells.get(c));
                return new State(beads, to, borne, turns);
            }

            State withKind(int i, int kind) {
                return with(i, new Bead(kind, beads.get(i).colour));
            }

            State withColour(int i, int colour) {
                return with(i, new Bead(beads.get(i).kind, colour));
            }

            State with(int i, Bead bead) {
                List<Bead> other = new ArrayList<>(beads);
                other.set(i, bead);
                return new State(other, cells, borne, turns);
            }

            boolean fits(int[] picture) {
                for (int c = 0; c < 14; c++) if (picture[c] >= 0 && picture[c] != showIn(c)) return false;
                return true;
            }

            int lead() {
                int sum = 0;
                for (int c : new int[] {1, 2, 3, 5, 6, 7}) sum += showIn(c);
                for (int c = 8; c <= 13; c++) sum -= showIn(c);
                return sum;
            }
        }

        final int[][] rows = new int[6][];
        final byte[][] texts = new byte[4][];
        List<Bead> beads = null;
        /** A deed: {move}, {c, d}, or {} that changed nothing. */
        List<int[]> deeds = new ArrayList<>();
        final List<List<int[]>> kept = new ArrayList<>(Arrays.asList(null, null, null));
        int asked = 0, finding = 0;
        long upper = 0, lower = 1;
        final int[] found = new int[6];

        State last = null;
        List<int[]> lastDeeds = null;
        int lastSize = 0;

        /** Lists of deeds only grow or are made anew, so the same list of the same size leads to the same state. */
        State now() {
            if (last == null || lastDeeds != deeds || lastSize != deeds.size()) {
                last = playedAnew();
                lastDeeds = deeds;
                lastSize = deeds.size();
            }
            return last;
        }

        State playedAnew() {
            List<Integer> own = new ArrayList<>();
            List<Integer> borne = new ArrayList<>();
            for (int i = 0; i < 14; i++) {
                own.add(i);
                borne.add(0);
            }
            State s = new State(beads, own, borne, 0);
            for (int[] deed : deeds) {
                if (deed.length == 1) s = s.moved(deed[0]);
                if (deed.length == 2) s = s.exchanged(deed[0], deed[1]);
            }
            return s;
        }

        int find(int f) {
            finding = f;
            found[f]++;
            return -3;
        }

        int tell(int v) {
            asked = v;
            return 1;
        }

        static boolean no(int v, int least, int most) {
            return v < least || v > most;
        }

        int row(int r, int n) {
            if (no(r, 0, 5) || n > 40) return -1;
            if (n < 0) return find(5);
            rows[r] = new int[n];
            return n;
        }

        int lay(int r, int i, int v) {
            if (no(r, 0, 5)) return -1;
            if (rows[r] == null) return find(1);
            if (no(i, 0, rows[r].length - 1)) return find(2);
            int old = rows[r][i];
            rows[r][i] = v;
            return tell(old);
        }

        int at(int r, int i) {
            if (no(r, 0, 5)) return -1;
            if (rows[r] == null) return find(1);
            if (no(i, 0, rows[r].length - 1)) return find(2);
            return tell(rows[r][i]);
        }

        int tear(int r) {
            if (no(r, 0, 5)) return -1;
            if (rows[r] == null) return find(1);
            rows[r] = null;
            return 1;
        }

        int copy(int r, int i, int to, int j, int n) {
            if (no(r, 0, 5) || no(to, 0, 5)) return -1;
            if (n < 0) return find(5);
            if (rows[r] == null || rows[to] == null) return find(1);
            if (i < 0 || (long) i + n > rows[r].length || j < 0 || (long) j + n > rows[to].length) return find(2);
            int[] taken = Arrays.copyOfRange(rows[r], i, i + n);
            for (int k = 0; k < n; k++) rows[to][j + k] = taken[k];
            return 1;
        }

        int mean(int r) {
            if (no(r, 0, 5)) return -1;
            if (rows[r] == null) return find(1);
            if (rows[r].length == 0) return find(4);
            BigInteger sum = BigInteger.ZERO;
            for (int v : rows[r]) sum = sum.add(BigInteger.valueOf(v));
            return tell(sum.divide(BigInteger.valueOf(rows[r].length)).intValueExact());
        }

        int text(int t, int n) {
            if (no(t, 0, 3) || n > 60) return -1;
            if (n < 0) return find(5);
            texts[t] = new byte[n];
            Arrays.fill(texts[t], (byte) ' ');
            return n;
        }

        int put(int t, int i, int v) {
            if (no(t, 0, 3)) return -1;
            if (texts[t] == null) return find(1);
            if (no(i, 0, texts[t].length - 1)) return find(2);
            int old = texts[t][i];
            texts[t][i] = (byte) v;
            return 1000 + old;
        }

        /** The longest beginning of the text that some toy goes on from, by looking at each beginning by itself. */
        int faultOf(byte[] text) {
            String s = new String(text, java.nio.charset.StandardCharsets.ISO_8859_1);
            if (s.matches(" *([btwsgr][0-9] *){14}")) return -9;
            for (int n = 1; n <= s.length(); n++) {
                if (!s.substring(0, n).matches(" *([btwsgr][0-9] *){0,14}|( *[btwsgr][0-9]){0,13} *[btwsgr]")) return n - 1;
            }
            return s.length();
        }

        int fault(int t) {
            if (no(t, 0, 3)) return -1;
            if (texts[t] == null) return find(1);
            return faultOf(texts[t]);
        }

        int toy(int t) {
            if (no(t, 0, 3)) return -1;
            if (texts[t] == null) return find(1);
            if (faultOf(texts[t]) != -9) return -4;
            String s = new String(texts[t], java.nio.charset.StandardCharsets.ISO_8859_1).replace(" ", "");
            beads = new ArrayList<>();
            for (int i = 0; i < 14; i++) beads.add(new Bead("btwsgr".indexOf(s.charAt(2 * i)), s.charAt(2 * i + 1) - '0'));
            deeds = new ArrayList<>();
            for (int k = 0; k < 3; k++) kept.set(k, null);
            return 14;
        }

        int beadSays(int i, int what) {
            State s = now();
            int c = s.cells.indexOf(i);
            return new int[] {beads.get(i).kind, beads.get(i).colour, c, s.borne.get(i), s.showIn(c)}[what];
        }

        int bead(int i, int what) {
            if (beads == null || no(i, 0, 13) || no(what, 0, 4)) return -1;
            return tell(beadSays(i, what));
        }

        int cell(int c, int what) {
            if (beads == null || no(c, 0, 13) || no(what, 0, 1)) return -1;
            return tell(what == 0 ? now().cells.get(c) : now().showIn(c));
        }

        int mark(int i, int kind) {
            if (beads == null || no(i, 0, 13) || no(kind, 1, 5)) return -1;
            State s = now();
            int own = beads.get(i).kind;
            int c = s.cells.indexOf(i);
            if (kind == 1 && (own == 1 || own == 4)) {
                for (int k = 0; k < 10; k++) {
                    if (State.show(beads.get(i), 1, s.borne.get(i) + k, 0) == beads.get(i).colour) return k;
                }
            }
            if (kind == 2 && own == 2) {
                int shown = s.showIn(c);
                for (int k = 1; k <= 4; k++) {
                    if (State.show(beads.get(i), c, 0, s.turns + k) < shown) return k;
                }
                return 0;
            }
            if (kind == 3 && (own == 3 || own == 5)) return c == 0 || c == 4 ? 1 : 0;
            if (kind == 4 && own == 4) return (s.kindIn(0) == 4 ? 1 : 0) + (s.kindIn(4) == 4 ? 1 : 0);
            if (kind == 5 && own == 5) return c == 4 ? 1 : 0;
            return find(3);
        }

        int turn(int move) {
            if (beads == null) return -4;
            if (no(move, 0, 3)) return -1;
            if (now().barred(move)) return -4;
            if (deeds.size() == 40) return -2;
            deeds.add(new int[] {move});
            return now().showIn(0);
        }

        int exchange(int c, int d) {
            if (beads == null) return -4;
            if (no(c, 0, 13) || no(d, 0, 13) || c == d) return -1;
            if (deeds.size() == 40) return -2;
            deeds.add(new int[] {c, d});
            return now().cells.get(c);
        }

        int undo(int n) {
            if (no(n, 0, deeds.size())) return -1;
            int many = deeds.size() - n;
            deeds = new ArrayList<>(deeds.subList(0, n));
            return many;
        }

        int keep(int k) {
            if (no(k, 0, 2)) return -1;
            if (beads == null) return -4;
            kept.set(k, new ArrayList<>(deeds));
            return deeds.size();
        }

        int on(int k) {
            if (no(k, 0, 2)) return -1;
            if (kept.get(k) == null) return find(1);
            deeds = new ArrayList<>(kept.get(k));
            return deeds.size();
        }

        int shows(int i, int c, int borne, int turns) {
            if (beads == null || no(i, 0, 13) || no(c, 0, 13) || no(borne, 0, 99) || no(turns, 0, 99)) return -1;
            return State.show(beads.get(i), c, borne, turns);
        }

        int rowFault(int r, int least, int most, int low, int high) {
            if (rows[r] == null) return find(1);
            if (no(rows[r].length, least, most)) return find(5);
            for (int v : rows[r]) if (no(v, low, high)) return find(3);
            return 0;
        }

        int run(int r, int to) {
            if (beads == null) return -4;
            if (no(r, 0, 5) || no(to, 0, 5)) return -1;
            if (rowFault(r, 0, 20, 0, 3) != 0) return -3;
            State s = now();
            int made = 0;
            while (made < rows[r].length && !s.barred(rows[r][made])) s = s.moved(rows[r][made++]);
            rows[to] = new int[14];
            for (int c = 0; c < 14; c++) rows[to][c] = s.showIn(c);
            return made;
        }

        int rounds(int r) {
            if (beads == null) return -4;
            if (no(r, 0, 5)) return -1;
            if (rowFault(r, 1, 20, 0, 3) != 0) return -3;
            State first = now();
            State s = first;
            for (int k = 1; k <= 200; k++) {
                for (int move : rows[r]) {
                    if (s.barred(move)) return -9;
                    s = s.moved(move);
                }
                if (s.cells.equals(first.cells)) return k;
            }
            return -9;
        }

        /** By breadth, so that it is not the class's own way. */
        int shortest(int[] picture, int to) {
            List<State> states = List.of(now());
            List<List<Integer>> ways = List.of(List.of());
            for (int many = 0; many <= 5; many++) {
                List<State> later = new ArrayList<>();
                List<List<Integer>> laterWays = new ArrayList<>();
                for (int k = 0; k < states.size(); k++) {
                    if (states.get(k).fits(picture)) {
                        rows[to] = ways.get(k).stream().mapToInt(v -> v).toArray();
                        return many;
                    }
                    for (int move = 0; move < 4 && many < 5; move++) {
                        if (!states.get(k).barred(move)) {
                            List<Integer> way = new ArrayList<>(ways.get(k));
                            way.add(move);
                            later.add(states.get(k).moved(move));
                            laterWays.add(way);
                        }
                    }
                }
                states = later;
                ways = laterWays;
            }
            return -9;
        }

        int fewest(int c, int colour, int r) {
            if (beads == null) return -4;
            if (no(c, 0, 13) || no(colour, 0, 9) || no(r, 0, 5)) return -1;
            int[] picture = new int[14];
            Arrays.fill(picture, -1);
            picture[c] = colour;
            return shortest(picture, r);
        }

        int picture(int r, int to) {
            if (beads == null) return -4;
            if (no(r, 0, 5) || no(to, 0, 5)) return -1;
            if (rowFault(r, 14, 14, -1, 9) != 0) return -3;
            return shortest(rows[r].clone(), to);
        }

        int which(int r) {
            if (beads == null) return -4;
            if (no(r, 0, 5)) return -1;
            if (rowFault(r, 14, 14, -1, 9) != 0) return -3;
            int bits = 0;
            for (int move = 0; move < 4; move++) {
                if (!now().barred(move) && now().moved(move).fits(rows[r])) bits += 1 << move;
            }
            return bits;
        }

        int pairFault(int i, int r) {
            if (beads == null || no(i, 0, 13) || no(r, 0, 5)) return -1;
            if (rows[r] == null) return find(1);
            if (rows[r].length > 16 || rows[r].length % 2 == 1) return find(5);
            for (int k = 0; k < rows[r].length; k++) if (no(rows[r][k], 0, k % 2 == 0 ? 3 : 9)) return find(3);
            return 0;
        }

        boolean showed(State from, int i, int[] pairs) {
            State s = from;
            for (int k = 0; k < pairs.length; k += 2) {
                if (s.barred(pairs[k])) return false;
                s = s.moved(pairs[k]);
                if (s.showIn(s.cells.indexOf(i)) != pairs[k + 1]) return false;
            }
            return true;
        }

        int kinds(int i, int r) {
            int f = pairFault(i, r);
            if (f != 0) return f;
            int bits = 0;
            for (int kind = 0; kind < 6; kind++) if (showed(now().withKind(i, kind), i, rows[r])) bits += 1 << kind;
            return bits;
        }

        int colours(int i, int r) {
            int f = pairFault(i, r);
            if (f != 0) return f;
            int bits = 0;
            for (int colour = 0; colour < 10; colour++) if (showed(now().withColour(i, colour), i, rows[r])) bits += 1 << colour;
            return bits;
        }

        int next(int i, int r) {
            int bits = kinds(i, r);
            if (bits < 0) return bits;
            if (bits == 0) return -9;
            int best = -1;
            int least = 99;
            for (int move = 0; move < 4; move++) {
                int[] parts = new int[11];
                for (int kind = 0; kind < 6; kind++) {
                    if ((bits & 1 << kind) == 0) continue;
                    State s = now().withKind(i, kind);
                    if (s.barred(move)) {
                        parts[10]++;
                    } else {
                        s = s.moved(move);
                        parts[s.showIn(s.cells.indexOf(i))]++;
                    }
                }
                int part = Arrays.stream(parts).max().getAsInt();
                if (part < least) {
                    least = part;
                    best = move;
                }
            }
            tell(least);
            return best;
        }

        int play(State s, int left) {
            if (left == 0) return s.lead();
            int best = play(s, left - 1);
            for (int move = 0; move < 4; move++) {
                if (!s.barred(move)) {
                    int lead = play(s.moved(move), left - 1);
                    best = left % 2 == 0 ? Math.max(best, lead) : Math.min(best, lead);
                }
            }
            return best;
        }

        int duel(int n) {
            if (beads == null) return -4;
            if (no(n, 0, 3)) return -1;
            return tell(play(now(), 2 * n));
        }

        /** Weights of what the cell shows, by each set of moves that slip. */
        int chances(int r, int c, int colour, int p) {
            if (rowFault(r, 1, 8, 0, 3) != 0) return -3;
            int n = rows[r].length;
            BigInteger above = BigInteger.ZERO;
            for (int slips = 0; slips < 1 << n; slips++) {
                State s = now();
                BigInteger weight = BigInteger.ONE;
                for (int k = 0; k < n; k++) {
                    boolean slip = (slips >> k & 1) == 1;
                    weight = weight.multiply(BigInteger.valueOf(slip ? p : 12 - p));
                    if (weight.signum() == 0) break;
                    if (!slip && !s.barred(rows[r][k])) s = s.moved(rows[r][k]);
                }
                if (weight.signum() == 0) continue;
                int shown = s.showIn(c);
                above = above.add(weight.multiply(BigInteger.valueOf(colour < 0 ? shown : shown == colour ? 1 : 0)));
            }
            BigInteger below = BigInteger.valueOf(12).pow(n);
            BigInteger common = above.gcd(below);
            upper = above.divide(common).longValueExact();
            lower = below.divide(common).longValueExact();
            return 1;
        }

        int odds(int r, int c, int colour, int p) {
            if (beads == null) return -4;
            if (no(r, 0, 5) || no(c, 0, 13) || no(colour, 0, 9) || no(p, 0, 12)) return -1;
            return chances(r, c, colour, p);
        }

        int mid(int r, int c, int p) {
            if (beads == null) return -4;
            if (no(r, 0, 5) || no(c, 0, 13) || no(p, 0, 12)) return -1;
            return chances(r, c, -1, p);
        }

        int lots(int n, int seed) {
            if (beads == null) return -4;
            if (no(n, 1, 20) || no(seed, 1, 2147483646)) return -1;
            if (deeds.size() + n > 40) return -2;
            BigInteger lot = BigInteger.valueOf(seed);
            for (int k = 0; k < n; k++) {
                lot = lot.multiply(BigInteger.valueOf(48271)).mod(BigInteger.valueOf(2147483647));
                int x = lot.intValueExact();
                if (x / 8 % 8 < 7) {
                    deeds.add(now().barred(x % 4) ? new int[0] : new int[] {x % 4});
                } else {
                    deeds.add(x % 14 == x / 64 % 14 ? new int[0] : new int[] {x % 14, x / 64 % 14});
                }
            }
            return now().showIn(0);
        }

        int count(int what) {
            if (no(what, 0, 11)) return -1;
            if (what == 9) return (int) Arrays.stream(rows).filter(v -> v != null).count();
            if (what == 10) return (int) Arrays.stream(texts).filter(v -> v != null).count();
            if (what == 11) return (int) kept.stream().filter(v -> v != null).count();
            if (beads == null) return 0;
            State s = now();
            return switch (what) {
                case 0 -> 14;
                case 1 -> s.turns;
                case 2 -> deeds.size();
                case 3 -> (s.barred(0) ? 1 : 0) | (s.barred(2) ? 2 : 0);
                case 4 -> ONE.stream().mapToInt(s::showIn).sum();
                case 5 -> TWO.stream().mapToInt(s::showIn).sum();
                case 6 -> (int) ONE.stream().filter(c -> s.cells.get(c).equals(c)).count()
                        + (int) TWO.stream().filter(c -> c > 4 && s.cells.get(c).equals(c)).count();
                case 7 -> (int) beads.stream().filter(b -> b.kind == 1 || b.kind == 4).count();
                default -> (int) beads.stream().filter(b -> b.kind == 3 || b.kind == 5).count();
            };
        }

        int findings(int f) {
            return no(f, 1, 5) ? -1 : found[f];
        }

        long digest() {
            List<Long> all = new ArrayList<>();
            for (int what = 0; what < 12; what++) all.add((long) count(what));
            for (int i = 0; beads != null && i < 14; i++) for (int what = 0; what < 5; what++) all.add((long) beadSays(i, what));
            for (int k = 0; k < 3; k++) all.add(kept.get(k) == null ? -1L : kept.get(k).size());
            for (int[] row : rows) {
                all.add(row == null ? -1L : row.length);
                if (row != null) for (int v : row) all.add((long) v);
            }
            for (byte[] text : texts) {
                all.add(text == null ? -1L : text.length);
                if (text != null) for (byte v : text) all.add((long) v);
            }
            long h = 17;
            for (long v : all) h = 31 * h + v;
            return h;
        }
    }
}
