import java.lang.reflect.InvocationTargetException;
import java.lang.reflect.Method;

/** The edges that the document names for chances and for what is told: its terms, promises 30, 31 and 33 to 39. */
public final class EdgesToldTest {
    static final String STUCK = Edge.but(Edge.PLAIN, 0, "s0");
    static final String ROOTED = Edge.but(Edge.PLAIN, 4, "r4");
    static final long TWELVE_TO_8 = 429981696L, ELEVEN_TO_7 = 19487171L, ELEVEN_TO_8 = 214358881L;

    public static void main(String[] args) {
        all();
        Edge.end("EdgesToldTest");
    }

    static void all() {
        orderOfRefusals();
        refusedInAFullObject();
        sets();
        odds();
        oddsBarred();
        mid();
        lowestTerms();
        chancesRefused();
        asked();
        upperAndLower();
        count();
        countKept();
        finding();
        findings();
        digestOfRows();
        digestOfToys();
        lastCall();
        wildNumbers();
    }

    // ---- terms

    static void orderOfRefusals() {
        Edge.sentence(0, "Refused is, the first of these that fits, in this order: BAD -1 (a number that is none, or not as told), FULL -2, STATE -4 (not now), SPENT -6 (more than told), FINDING -3 (finding() tells which), unless a call says so otherwise. NONE -9.");
        long[] constants = {CrossedRings.BAD, CrossedRings.FULL, CrossedRings.FINDING, CrossedRings.STATE, CrossedRings.SPENT, CrossedRings.NONE};
        long[] values = {-1, -2, -3, -4, -6, -9};
        for (int k = 0; k < values.length; k++) Edge.due("constant " + k, constants[k], values[k]);
        // Each of these is refused for BAD and for a ground behind it.
        Edge.Call[] both = {x -> x.row(6, -1), x -> x.lay(6, -1, 0), x -> x.at(-1, -1), x -> x.copy(-1, 0, 0, 0, -1), x -> x.text(4, -1), x -> x.put(4, -1, 0),
            x -> x.keep(3), x -> x.on(3), x -> x.kinds(14, 2), x -> x.colours(14, 2), x -> x.next(14, 2), x -> x.mark(0, 6), x -> x.kinds(0, 6), x -> x.toy(4)};
        for (int k = 0; k < both.length; k++) Edge.refuses("call " + k, Edge.NEW, both[k], Edge.BAD);
    }

    /** All is there that can be: six full rows, four full texts, 40 deeds, three toys kept, numbers told. */
    static final Edge.Setup CROWDED = Edge.toy(Edge.but(Edge.PLAIN, 8, "t8", 4, "s4")).then(x -> {
        x.turn(0);
        x.keep(0);
        x.turn(2);
        x.exchange(3, 12);
        x.keep(1);
        x.lots(20, 11);
        x.lots(17, 12);
        x.keep(2);
        for (int r = 0; r < 6; r++) {
            x.row(r, 40);
            x.lay(r, 39, 50 + r);
        }
        x.row(1, 2);
        x.odds(1, 3, 4, 5);
        x.row(1, 40);
        for (int t = 0; t < 4; t++) {
            x.text(t, 60);
            x.put(t, 59, 'a' + t);
        }
        x.at(3, 39);
    });

    static void refusedInAFullObject() {
        Edge.sentence(0, "What is refused changes nothing but finding(), findings().");
        Edge.gives("count(2)", CROWDED, x -> x.count(2), 40);
        Edge.gives("count(11)", CROWDED, x -> x.count(11), 3);
        Edge.Call[] bad = {x -> x.row(0, 41), x -> x.lay(6, 0, 1), x -> x.at(6, 0), x -> x.tear(6), x -> x.copy(0, 0, 6, 0, 1), x -> x.mean(6), x -> x.text(0, 61), x -> x.put(4, 0, 1),
            x -> x.fault(4), x -> x.toy(4), x -> x.bead(14, 0), x -> x.cell(0, 2), x -> x.mark(0, 0), x -> x.turn(4), x -> x.exchange(5, 5), x -> x.undo(41), x -> x.keep(3), x -> x.on(3),
            x -> x.shows(0, 0, 100, 0), x -> x.run(0, 6), x -> x.rounds(6), x -> x.fewest(0, 10, 0), x -> x.picture(0, 6), x -> x.which(6), x -> x.kinds(0, 6), x -> x.colours(14, 0),
            x -> x.next(14, 0), x -> x.duel(4), x -> x.odds(0, 0, 0, 13), x -> x.mid(0, 0, 13), x -> x.lots(21, 1), x -> x.count(12), x -> x.findings(6)};
        for (int k = 0; k < bad.length; k++) Edge.refuses("call " + k, CROWDED, bad[k], Edge.BAD);
        Edge.refuses("toy(0)", CROWDED, x -> x.toy(0), Edge.STATE);
        Edge.refuses("exchange(0, 1)", CROWDED, x -> x.exchange(0, 1), Edge.FULL);
        Edge.refuses("lots(1, 1)", CROWDED, x -> x.lots(1, 1), Edge.FULL);
        Edge.Call[] sizes = {x -> x.row(0, -1), x -> x.text(0, -1), x -> x.copy(0, 0, 1, 0, -1), x -> x.run(0, 1), x -> x.rounds(0), x -> x.picture(0, 1), x -> x.which(0), x -> x.kinds(0, 0),
            x -> x.colours(0, 0), x -> x.next(0, 0), x -> x.odds(0, 0, 0, 0), x -> x.mid(0, 0, 0)};
        for (int k = 0; k < sizes.length; k++) Edge.finds("call " + k, CROWDED, sizes[k], Edge.SIZE);
        Edge.Call[] beyond = {x -> x.lay(0, 40, 1), x -> x.at(0, 40), x -> x.put(0, 60, 1), x -> x.copy(0, 0, 1, 1, 40)};
        for (int k = 0; k < beyond.length; k++) Edge.finds("call " + k, CROWDED, beyond[k], Edge.BEYOND);
        Edge.finds("mark(0, 1)", CROWDED, x -> x.mark(0, 1), Edge.UNLIKE);
    }

    static void sets() {
        Edge.sentence(0, "Sets (of MOVES 0 .. 3, of KINDS, of COLOURS 0 .. 9) are told by bits.");
        int[] shown = {7, 1, 3, 8};
        for (int m = 0; m < 4; m++) {
            int move = m;
            Edge.gives("which, move " + move, Edge.toy(Edge.PLAIN).then(Edge.row(2, Edge.with(Edge.repeat(14, -1), 0, shown[move]))), x -> x.which(2), 1 << move);
        }
        for (int k = 0; k < 10; k++) {
            int colour = k;
            Edge.gives("colours, " + colour, Edge.toy(Edge.PLAIN).then(Edge.row(2, 0, colour)), x -> x.colours(8, 2), 1 << colour);
        }
        Edge.gives("kinds, bead 8 seen to be tinted or glass", Edge.toy(Edge.PLAIN).then(Edge.row(2, 2, 9)), x -> x.kinds(8, 2), 1 << 1 | 1 << 4);
        Edge.gives("kinds, all", Edge.toy(Edge.PLAIN).then(Edge.row(2)), x -> x.kinds(8, 2), 63);
        Edge.gives("count(3), ring 1", Edge.toy(STUCK), x -> x.count(3), 1 << 1);
        Edge.gives("count(3), both", Edge.toy(ROOTED), x -> x.count(3), 1 | 1 << 1);
    }

    // ---- 7 chances

    static void chance(String toy, int[] row, int c, int colour, int p, long upper, long lower) {
        Edge.shares("odds(2, " + c + ", " + colour + ", " + p + ") of " + toy, Edge.toy(toy).then(Edge.row(2, row)), x -> x.odds(2, c, colour, p), upper, lower);
    }

    static void odds() {
        Edge.sentence(0, "(each MOVE of a ROW of 1 to 8 ints slips, is not made, by p (0 .. 12) of 12, each by itself;");
        int[] one = {0};
        int[] eight = new int[8];
        chance(Edge.PLAIN, one, 0, 7, 0, 1, 1);
        chance(Edge.PLAIN, one, 0, 0, 0, 0, 1);
        chance(Edge.PLAIN, one, 0, 7, 12, 0, 1);
        chance(Edge.PLAIN, one, 0, 0, 12, 1, 1);
        chance(Edge.PLAIN, one, 0, 7, 1, 11, 12);
        chance(Edge.PLAIN, one, 0, 0, 1, 1, 12);
        chance(Edge.PLAIN, one, 0, 7, 11, 1, 12);
        chance(Edge.PLAIN, one, 0, 7, 5, 7, 12);
        chance(Edge.PLAIN, eight, 0, 0, 0, 1, 1);
        chance(Edge.PLAIN, eight, 0, 0, 12, 1, 1);
        chance(Edge.PLAIN, eight, 0, 1, 12, 0, 1);
        // Cell 0 shows 0 by eight moves made or by none, 1 by seven, 7 by one.
        chance(Edge.PLAIN, eight, 0, 0, 1, (ELEVEN_TO_8 + 1) / 2, TWELVE_TO_8 / 2);
        chance(Edge.PLAIN, eight, 0, 0, 11, (ELEVEN_TO_8 + 1) / 2, TWELVE_TO_8 / 2);
        chance(Edge.PLAIN, eight, 0, 1, 1, ELEVEN_TO_7, TWELVE_TO_8 / 8);
        chance(Edge.PLAIN, eight, 0, 7, 11, ELEVEN_TO_7, TWELVE_TO_8 / 8);
        chance(Edge.PLAIN, eight, 0, 7, 1, 11, TWELVE_TO_8 / 8);
        chance(Edge.PLAIN, new int[] {0, 0}, 0, 7, 3, 3, 8);
        chance(Edge.PLAIN, new int[] {0, 1}, 0, 0, 5, 37, 72);
        chance(Edge.PLAIN, new int[] {0, 2}, 8, 7, 3, 9, 16);
        chance(Edge.PLAIN, new int[] {0, 2}, 8, 0, 3, 3, 16);

        Edge.sentence(30, "Chances that a CELL SHOWS a COLOUR behind them: 1.");
        chance(Edge.but(Edge.NOUGHTS, 13, "b9"), new int[] {2}, 0, 9, 6, 1, 2);
        chance(Edge.but(Edge.NOUGHTS, 12, "b9"), new int[] {3}, 13, 9, 0, 0, 1);
        chance(Edge.but(Edge.NOUGHTS, 12, "b9"), new int[] {2}, 13, 9, 0, 1, 1);
        chance(Edge.NOUGHTS, new int[] {3, 2, 1, 0}, 5, 0, 7, 1, 1);
        chance(Edge.but(Edge.NOUGHTS, 5, "w9"), new int[] {2, 2, 2, 2}, 5, 8, 6, 1, 16);
        chance(Edge.but(Edge.NOUGHTS, 5, "w9"), new int[] {2, 2, 2, 2}, 5, 9, 6, 15, 16);
        chance(Edge.but(Edge.NOUGHTS, 8, "t9"), new int[] {2, 3}, 8, 1, 6, 1, 4);
        Edge.gives("a slip is no turn, a move aside neither", Edge.toy(Edge.PLAIN).then(Edge.row(2, eight)).then(x -> x.odds(2, 0, 0, 6)), x -> x.count(1) + x.count(2), 0);
    }

    static void oddsBarred() {
        Edge.sentence(0, "one that is BARRED as its turn comes is not made either)");
        // A root in cell 3: the first move that is made bars all others.
        String soon = Edge.but(Edge.PLAIN, 3, "r3");
        chance(soon, new int[] {0, 0}, 0, 7, 3, 15, 16);
        chance(soon, new int[] {0, 0, 1}, 0, 7, 0, 1, 1);
        chance(soon, new int[] {0, 0, 1}, 0, 1, 6, 1, 8);
        chance(soon, new int[8], 0, 7, 11, TWELVE_TO_8 - ELEVEN_TO_8, TWELVE_TO_8);
        chance(STUCK, new int[] {2}, 0, 0, 0, 1, 1);
        chance(STUCK, new int[] {2, 0}, 0, 7, 3, 3, 4);
        chance(STUCK, new int[] {0, 2}, 0, 3, 3, 9, 16);
        chance(STUCK, new int[] {0, 2}, 0, 0, 3, 1, 4);
        chance(ROOTED, new int[] {0, 1, 2, 3}, 0, 0, 1, 1, 1);
        Edge.shares("the mean, all barred", Edge.toy(ROOTED).then(Edge.row(2, 0, 1, 2, 3)), x -> x.mid(2, 1, 1), 1, 1);
        Edge.shares("the mean, barred behind the first", Edge.toy(soon).then(Edge.row(2, 0, 0)), x -> x.mid(2, 0, 6), 21, 4);
    }

    static void mean(String toy, int[] row, int c, int p, long upper, long lower) {
        Edge.shares("mid(2, " + c + ", " + p + ") of " + toy, Edge.toy(toy).then(Edge.row(2, row)), x -> x.mid(2, c, p), upper, lower);
    }

    static void mid() {
        Edge.sentence(31, "The mean of what a CELL SHOWS behind them: 1.");
        mean(Edge.PLAIN, new int[] {0}, 0, 0, 7, 1);
        mean(Edge.PLAIN, new int[] {0}, 0, 12, 0, 1);
        mean(Edge.PLAIN, new int[] {0}, 0, 4, 14, 3);
        mean(Edge.PLAIN, new int[] {0}, 0, 1, 77, 12);
        mean(Edge.PLAIN, new int[] {0}, 1, 11, 11, 12);
        mean(Edge.PLAIN, new int[] {0}, 13, 5, 3, 1);
        mean(Edge.NOUGHTS, new int[8], 13, 5, 0, 1);
        mean("b9b9b9b9b9b9b9b9b9b9b9b9b9b9", new int[] {0, 1, 2, 3, 0, 1, 2, 3}, 0, 7, 9, 1);
        // By k of eight moves made cell 4 shows nine if k is 4: 70 of 256.
        mean(Edge.but(Edge.NOUGHTS, 0, "b9"), new int[8], 4, 6, 9 * 70 / 2, 128);
        // By seven of eight made, by 88 of the whole, cell 0 shows nine.
        mean(Edge.but(Edge.NOUGHTS, 1, "b9"), new int[8], 0, 11, 11, TWELVE_TO_8 / 72);
    }

    static void lowestTerms() {
        Edge.sentence(0, "Chances, means are told by upper(), lower(), in lowest terms, the lower number above 0 (0 by 1).");
        for (int p = 0; p <= 12; p++) {
            for (int colour : new int[] {7, 0, 5}) {
                long upper = colour == 7 ? 12 - p : colour == 0 ? p : 0;
                long common = greatest(upper, 12);
                chance(Edge.PLAIN, new int[] {0}, 0, colour, p, upper / common, 12 / common);
            }
            long upper = 7 * (12 - p);
            long common = greatest(upper, 12);
            mean(Edge.PLAIN, new int[] {0}, 0, p, upper / common, 12 / common);
        }
    }

    static long greatest(long a, long b) {
        return b == 0 ? a : greatest(b, a % b);
    }

    static void chancesRefused() {
        Edge.Setup told = Edge.toy(Edge.PLAIN).then(Edge.turns(2)).then(Edge.row(1, 0)).then(x -> x.odds(1, 0, 3, 5));
        Edge.Setup bare = Edge.text(0, Edge.PLAIN);
        Edge.Setup[] rows = {Edge.NEW, Edge.row(2), Edge.row(2, new int[9]), Edge.row(2, 4), Edge.row(2, 0)};
        int[][] bad = {{6, 0, 0, 0}, {-1, 0, 0, 0}, {2, 14, 0, 0}, {2, -1, 0, 0}, {2, 0, 0, 13}, {2, 0, 0, -1},
            {Edge.HIGH, 0, 0, 0}, {2, Edge.LOW, 0, 0}, {2, 0, 0, Edge.HIGH}, {2, 0, 0, Edge.LOW}, {2, 0, 10, 0}, {2, 0, -1, 0}, {2, 0, Edge.HIGH, 0}};

        Edge.sentence(30, "STATE: no BEADS; BAD; NOTHING; SIZE; UNLIKE. (In this order.)");
        for (Edge.Setup row : rows) {
            Edge.refuses("odds without beads", bare.then(row), x -> x.odds(2, 0, 0, 0), Edge.STATE);
            for (int[] b : bad) {
                String call = "odds(" + b[0] + ", " + b[1] + ", " + b[2] + ", " + b[3] + ")";
                Edge.refuses(call, told.then(row), x -> x.odds(b[0], b[1], b[2], b[3]), Edge.BAD);
                Edge.refuses(call + " without beads", bare.then(row), x -> x.odds(b[0], b[1], b[2], b[3]), Edge.STATE);
            }
        }
        chanceFindings(told, x -> x.odds(2, 13, 9, 12), x -> x.odds(2, 0, 0, 0));

        Edge.sentence(31, "STATE; BAD; NOTHING; SIZE; UNLIKE. (In this order.)");
        for (Edge.Setup row : rows) {
            Edge.refuses("mid without beads", bare.then(row), x -> x.mid(2, 0, 0), Edge.STATE);
            for (int[] b : bad) {
                if (b[2] != 0) continue;
                String call = "mid(" + b[0] + ", " + b[1] + ", " + b[3] + ")";
                Edge.refuses(call, told.then(row), x -> x.mid(b[0], b[1], b[3]), Edge.BAD);
                Edge.refuses(call + " without beads", bare.then(row), x -> x.mid(b[0], b[1], b[3]), Edge.STATE);
            }
        }
        chanceFindings(told, x -> x.mid(2, 13, 12), x -> x.mid(2, 0, 0));
    }

    static void chanceFindings(Edge.Setup told, Edge.Call... calls) {
        for (Edge.Call call : calls) {
            Edge.finds("a missing row", told, call, Edge.NOTHING);
            Edge.finds("an empty row", told.then(Edge.row(2)), call, Edge.SIZE);
            Edge.finds("a row of 9", told.then(Edge.row(2, new int[9])), call, Edge.SIZE);
            Edge.finds("a row of 40", told.then(Edge.row(2, new int[40])), call, Edge.SIZE);
            Edge.finds("a row of 9, unlike", told.then(Edge.row(2, Edge.repeat(9, 4))), call, Edge.SIZE);
            Edge.gives("a row of 1", told.then(Edge.row(2, 3)), call, 1);
            Edge.gives("a row of 8", told.then(Edge.row(2, Edge.repeat(8, 3))), call, 1);
            for (int v : new int[] {-1, 4, Edge.LOW, Edge.HIGH}) {
                Edge.finds(v + " at first", told.then(Edge.row(2, Edge.with(new int[8], 0, v))), call, Edge.UNLIKE);
                Edge.finds(v + " at the last", told.then(Edge.row(2, Edge.with(new int[8], 7, v))), call, Edge.UNLIKE);
                Edge.finds(v + " alone", told.then(Edge.row(2, v)), call, Edge.UNLIKE);
            }
        }
    }

    // ---- 8 what is told

    static void asked() {
        Edge.sentence(33, "What the latest lay(), at(), mean(), bead(), cell(), next(), duel() that was not refused (nor NONE) told; 0 before.");
        Edge.gives("asked() of a new object", Edge.NEW, x -> x.asked(), 0);
        Edge.gives("asked() of a new toy", Edge.toy(Edge.PLAIN), x -> x.asked(), 0);
        Edge.Setup there = Edge.toy(Edge.PLAIN).then(Edge.row(0, 41, 43)).then(Edge.row(1, 2, 8)).then(Edge.row(2)).then(x -> x.at(0, 0));
        Edge.gives("asked() behind at()", there, x -> x.asked(), 41);
        Edge.gives("asked() behind lay()", there.then(x -> x.lay(0, 1, 7)), x -> x.asked(), 43);
        Edge.gives("asked() behind mean()", there.then(x -> x.mean(0)), x -> x.asked(), 42);
        Edge.gives("asked() behind bead()", there.then(x -> x.bead(13, 2)), x -> x.asked(), 13);
        Edge.gives("asked() behind cell()", there.then(x -> x.cell(12, 0)), x -> x.asked(), 12);
        Edge.gives("asked() behind next()", there.then(x -> x.next(8, 2)), x -> x.asked(), 4);
        Edge.gives("asked() behind duel()", there.then(x -> x.duel(0)), x -> x.asked(), 1);
        Edge.gives("asked() twice", there.then(x -> x.asked()), x -> x.asked(), 41);
        Edge.Call[] refused = {x -> x.lay(6, 0, 0), x -> x.lay(0, 2, 0), x -> x.at(5, 0), x -> x.at(0, -1), x -> x.mean(2), x -> x.mean(6), x -> x.bead(14, 0),
            x -> x.bead(0, 5), x -> x.cell(14, 0), x -> x.next(14, 2), x -> x.next(8, 0), x -> x.duel(4), x -> x.duel(-1)};
        for (Edge.Call c : refused) Edge.gives("asked() behind what is refused", there.then(c::of), x -> x.asked(), 41);
        Edge.gives("asked() behind next() that is NONE", there.then(x -> x.lay(1, 1, 7)).then(x -> x.at(0, 0)).then(x -> x.next(8, 1)), x -> x.asked(), 41);
        Edge.Call[] others = {x -> x.row(3, 5), x -> x.tear(2), x -> x.copy(0, 0, 0, 1, 1), x -> x.text(1, 3), x -> x.put(0, 0, 9), x -> x.fault(0), x -> x.toy(0),
            x -> x.mark(0, 1), x -> x.turn(0), x -> x.exchange(0, 1), x -> x.undo(0), x -> x.keep(0), x -> x.on(0), x -> x.shows(9, 0, 0, 0), x -> x.run(2, 3),
            x -> x.rounds(1), x -> x.fewest(0, 7, 3), x -> x.picture(0, 3), x -> x.which(0), x -> x.kinds(8, 1), x -> x.colours(8, 1), x -> x.odds(1, 0, 0, 3),
            x -> x.mid(1, 0, 3), x -> x.lots(1, 1), x -> x.upper(), x -> x.lower(), x -> x.count(0), x -> x.finding(), x -> x.findings(1), x -> x.digest()};
        for (Edge.Call c : others) Edge.gives("asked() behind another call", there.then(c::of), x -> x.asked(), 41);
    }

    static void upperAndLower() {
        Edge.Setup there = Edge.toy(Edge.PLAIN).then(Edge.row(0, 0)).then(Edge.row(1, 4));
        Edge.Setup told = there.then(x -> x.odds(0, 0, 7, 7));
        Edge.sentence(34, "The upper number that was told last; 0 before.");
        Edge.gives("upper() of a new object", Edge.NEW, x -> x.upper(), 0);
        Edge.gives("upper() of a new toy", there, x -> x.upper(), 0);
        Edge.gives("upper() behind odds()", told, x -> x.upper(), 5);
        Edge.gives("upper() behind mid()", told.then(x -> x.mid(0, 0, 7)), x -> x.upper(), 35);
        Edge.gives("upper() behind odds() of nought", told.then(x -> x.odds(0, 0, 9, 7)), x -> x.upper(), 0);
        Edge.sentence(35, "Its lower number; 1 before.");
        Edge.gives("lower() of a new object", Edge.NEW, x -> x.lower(), 1);
        Edge.gives("lower() of a new toy", there, x -> x.lower(), 1);
        Edge.gives("lower() behind odds()", told, x -> x.lower(), 12);
        Edge.gives("lower() behind mid()", told.then(x -> x.mid(0, 0, 6)), x -> x.lower(), 2);
        Edge.gives("lower() behind odds() of nought", told.then(x -> x.odds(0, 0, 9, 7)), x -> x.lower(), 1);
        Edge.Call[] others = {x -> x.odds(0, 0, 10, 7), x -> x.odds(1, 0, 1, 7), x -> x.odds(3, 0, 1, 7), x -> x.mid(0, 0, 13), x -> x.mid(1, 0, 1), x -> x.mid(3, 0, 1),
            x -> x.toy(0), x -> x.mean(0), x -> x.duel(1), x -> x.undo(0), x -> x.lots(2, 3), x -> x.keep(0), x -> x.run(0, 3)};
        for (Edge.Call c : others) {
            Edge.gives("upper() behind another call", told.then(c::of), x -> x.upper(), 5);
            Edge.gives("lower() behind another call", told.then(c::of), x -> x.lower(), 12);
        }
    }

    static void counts(String when, Edge.Setup s, int... want) {
        for (int k = 0; k < 12; k++) {
            int what = k;
            Edge.gives("count(" + what + "), " + when, s, x -> x.count(what), want[what]);
        }
    }

    static void count() {
        Edge.sentence(36, "(3 to 8: 0 without BEADS)");
        counts("without beads", Edge.text(0, Edge.PLAIN).then(Edge.row(3, 5)), 0, 0, 0, 0, 0, 0, 0, 0, 0, 1, 1, 0);

        Edge.sentence(36, "0 BEADS (14, 0 without), 1 TURNS, 2 DEEDS, 3 RINGS that are BARRED (bits), 4 what CELLS of RING 0 SHOW together, 5 what those of RING 1 do, 6 BEADS that lie in the CELL of their own number, 7 TINTED ones (GLASS, too), 8 STUCK ones (ROOTS, too)");
        counts("plain", Edge.toy(Edge.PLAIN), 14, 0, 0, 0, 28, 0 + 8 + 9 + 0 + 4 + 1 + 2 + 3, 14, 0, 0, 0, 1, 0);
        counts("all nines", Edge.toy("b9b9b9b9b9b9b9b9b9b9b9b9b9b9"), 14, 0, 0, 0, 72, 72, 14, 0, 0, 0, 1, 0);
        // Glass ones, come into both crossings, show nought there.
        counts("all tinted", Edge.toy("t0t0t0t0t0t0t0t0g0g0g0g0g0g0").then(Edge.turns(2)), 14, 1, 1, 0, 0, 6, 6, 14, 0, 0, 1, 0);
        counts("all stuck", Edge.toy("s0s1s1s1s1s1s1s1r1r1r1r1r1r1"), 14, 0, 0, 2, 7, 7, 14, 0, 14, 0, 1, 0);
        counts("all roots", Edge.toy("r0r1r1r1r1r1r1r1r1r1r1r1r1r1"), 14, 0, 0, 3, 7, 7, 14, 0, 14, 0, 1, 0);
        counts("an exchange", Edge.toy(Edge.PLAIN).then(x -> x.exchange(1, 13)), 14, 0, 1, 0, 30, 25, 12, 0, 0, 0, 1, 0);
        counts("40 turns", Edge.toy(Edge.PLAIN).then(Edge.turns(Edge.repeat(40, 2))), 14, 40, 40, 0, 28, 27, 14, 0, 0, 0, 1, 0);
        counts("40 exchanges", Edge.toy(Edge.PLAIN).then(Edge.exchanges(40)), 14, 0, 40, 0, 28, 27, 14, 0, 0, 0, 1, 0);
        counts("a turn undone", Edge.toy(Edge.PLAIN).then(Edge.turns(2)).then(x -> x.undo(0)), 14, 0, 0, 0, 28, 27, 14, 0, 0, 0, 1, 0);
        counts("all beads away", Edge.toy(Edge.PLAIN).then(Edge.turns(0, 2)), 14, 2, 2, 0, 3 + 0 + 1 + 2 + 0 + 4 + 5 + 6, 3 + 7 + 8 + 9 + 0 + 3 + 1 + 2, 0, 0, 0, 0, 1, 0);

        Edge.sentence(36, "BAD.");
        for (int what : new int[] {-1, 12, Edge.HIGH, Edge.LOW}) {
            Edge.refuses("count(" + what + ")", Edge.toy(Edge.PLAIN).then(Edge.turns(0)), x -> x.count(what), Edge.BAD);
            Edge.refuses("count(" + what + ") of a new object", Edge.NEW, x -> x.count(what), Edge.BAD);
        }
    }

    static void countKept() {
        Edge.sentence(36, "9 ROWS, 10 TEXTS that are there, 11 kept TOYS");
        Edge.Setup s = Edge.toy(Edge.PLAIN);
        for (int k = 0; k < 6; k++) {
            int r = k;
            Edge.gives("count(9) with row " + r, x -> x.row(r, 0), x -> x.count(9), 1);
            Edge.gives("count(9) with row " + r + " torn", x -> x.row(r, 0), x -> x.tear(r) + x.count(9), 1);
            if (r < 4) Edge.gives("count(10) with text " + r, x -> x.text(r, 0), x -> x.count(10), 1);
            if (r < 3) Edge.gives("count(11) with a toy kept in " + r, Edge.toy(Edge.PLAIN).then(x -> x.keep(r)), x -> x.count(11), 1);
            s = s.then(x -> x.row(r, r)).then(x -> x.text(r, 1)).then(x -> x.keep(r));
            Edge.gives("count(9) with rows up to " + r, s, x -> x.count(9), r + 1);
            Edge.gives("count(10) with texts up to " + r, s, x -> x.count(10), Math.min(4, r + 1));
            Edge.gives("count(11) with toys up to " + r, s, x -> x.count(11), Math.min(3, r + 1));
        }
        Edge.gives("count(9) with a row anew", x -> x.row(2, 3), x -> x.row(2, 0) + x.count(9), 1);
        Edge.gives("count(11) behind on()", s.then(x -> x.on(1)), x -> x.count(11), 3);
    }

    static void finding() {
        Edge.sentence(37, "The latest FINDING (0 before any).");
        Edge.gives("finding() of a new object", Edge.NEW, x -> x.finding(), 0);
        Edge.gives("finding() behind what is BAD", x -> x.row(9, 0), x -> x.finding(), 0);
        Edge.gives("finding() behind STATE", x -> x.turn(0), x -> x.finding(), 0);
        Edge.gives("finding() behind FULL", Edge.toy(Edge.PLAIN).then(Edge.exchanges(40)), x -> x.turn(0) * 100 + x.finding(), -200);
        Edge.gives("finding() behind NONE", Edge.toy(Edge.PLAIN), x -> x.fault(0) * 100 + x.finding(), -900);

        Edge.sentence(0, "FINDINGS: 1 NOTHING (a ROW, a TEXT, a kept TOY that is missing), 2 BEYOND (a place of a ROW, a TEXT that there is not), 3 UNLIKE (a BEAD of another KIND; a number that is none), 4 NOUGHT (shared among none; nothing fits), 5 SIZE (fewer than none; too many, not as many as due).");
        Edge.Setup there = Edge.toy(Edge.PLAIN).then(Edge.row(1)).then(Edge.row(2, 4));
        Edge.Call[] calls = {x -> x.at(0, 0), x -> x.put(3, 0, 0), x -> x.on(0), x -> x.at(1, 0), x -> x.put(0, 28, 0), x -> x.mark(0, 1), x -> x.run(2, 3),
            x -> x.mean(1), x -> x.row(0, -1), x -> x.rounds(1), x -> x.kinds(0, 2)};
        int[] want = {1, 1, 1, 2, 2, 3, 3, 4, 5, 5, 5};
        for (int k = 0; k < calls.length; k++) {
            Edge.finds("call " + k, there, calls[k], want[k]);
            for (int j = 0; j < calls.length; j++) {
                int last = j;
                Edge.Call first = calls[k];
                Edge.gives("finding() behind calls " + k + ", " + j, there.then(first::of).then(calls[last]::of), x -> x.finding(), want[last]);
            }
        }
        Edge.Call[] others = {x -> x.row(9, 0), x -> x.turn(4), x -> x.at(2, 0), x -> x.turn(0), x -> x.toy(0), x -> x.digest(), x -> x.finding(), x -> x.findings(1), x -> x.findings(6)};
        for (Edge.Call c : others) Edge.gives("finding() stays", there.then(x -> x.mean(1)).then(c::of), x -> x.finding(), Edge.NOUGHT);
    }

    static void findings() {
        Edge.sentence(38, "How often a FINDING (1 .. 5) was answered.");
        Edge.Setup there = Edge.toy(Edge.PLAIN).then(Edge.row(1)).then(x -> {
            for (int k = 0; k < 1; k++) x.on(0);
            for (int k = 0; k < 2; k++) x.at(1, 0);
            for (int k = 0; k < 3; k++) x.mark(0, 1);
            for (int k = 0; k < 4; k++) x.mean(1);
            for (int k = 0; k < 5; k++) x.row(0, -1);
        });
        for (int k = 1; k <= 5; k++) {
            int f = k;
            Edge.gives("findings(" + f + ") of a new object", Edge.NEW, x -> x.findings(f), 0);
            Edge.gives("findings(" + f + ")", there, x -> x.findings(f), f);
            Edge.gives("findings(" + f + ") behind a toy anew", there.then(x -> x.toy(0)), x -> x.findings(f), f);
            Edge.gives("findings(" + f + ") behind refusals that are none", there.then(x -> x.row(9, 0)).then(x -> x.turn(9)).then(x -> x.findings(0)), x -> x.findings(f), f);
        }
        Edge.gives("findings(5) behind 300", x -> {
            for (int k = 0; k < 300; k++) x.row(0, -1);
        }, x -> x.findings(5), 300);

        Edge.sentence(38, "BAD.");
        for (int f : new int[] {0, 6, -1, Edge.HIGH, Edge.LOW}) Edge.refuses("findings(" + f + ")", there, x -> x.findings(f), Edge.BAD);
    }

    // ---- digest

    static long on(long h, long... values) {
        long sum = h;
        for (long v : values) sum = 31 * sum + v;
        return sum;
    }

    static long minusOnes(long h, int many) {
        long sum = h;
        for (int k = 0; k < many; k++) sum = 31 * sum - 1;
        return sum;
    }

    static void digestOfRows() {
        Edge.sentence(39, "h = 17; then h = 31 h + v for each v: count() 0 to 11;");
        long bare = on(17, 0, 0, 0, 0, 0, 0, 0, 0, 0, 0, 0, 0);
        Edge.gives("digest() of a new object: no bead's numbers", Edge.NEW, x -> x.digest(), minusOnes(bare, 3 + 6 + 4));

        Edge.sentence(39, "of each ROW its size (-1: missing) and places, of each TEXT likewise.");
        long oneRow = minusOnes(on(17, 0, 0, 0, 0, 0, 0, 0, 0, 0, 1, 0, 0), 3);
        Edge.gives("an empty row 0", x -> x.row(0, 0), x -> x.digest(), minusOnes(on(oneRow, 0), 5 + 4));
        Edge.gives("an empty row 5", x -> x.row(5, 0), x -> x.digest(), minusOnes(on(minusOnes(oneRow, 5), 0), 4));
        Edge.gives("a row of two", Edge.row(2, Edge.HIGH, Edge.LOW), x -> x.digest(), minusOnes(on(minusOnes(oneRow, 2), 2, Edge.HIGH, Edge.LOW), 3 + 4));
        long full = on(minusOnes(oneRow, 5), 40);
        for (int k = 0; k < 40; k++) full = on(full, k + 7);
        Edge.gives("a full row", x -> {
            x.row(5, 40);
            for (int k = 0; k < 40; k++) x.lay(5, k, k + 7);
        }, x -> x.digest(), minusOnes(full, 4));
        Edge.gives("a row torn", Edge.row(2, 5).then(x -> x.tear(2)), x -> x.digest(), minusOnes(bare, 13));
        Edge.gives("a row shorter anew", Edge.row(2, 5, 6, 7).then(Edge.row(2, 8)), x -> x.digest(), minusOnes(on(minusOnes(oneRow, 2), 1, 8), 3 + 4));

        long oneText = minusOnes(on(17, 0, 0, 0, 0, 0, 0, 0, 0, 0, 0, 1, 0), 3 + 6);
        Edge.gives("an empty text 0", x -> x.text(0, 0), x -> x.digest(), minusOnes(on(oneText, 0), 3));
        Edge.gives("an empty text 3", x -> x.text(3, 0), x -> x.digest(), on(minusOnes(oneText, 3), 0));
        Edge.gives("a text of three bytes", x -> {
            x.text(1, 3);
            x.put(1, 0, 127);
            x.put(1, 1, 128);
        }, x -> x.digest(), minusOnes(on(minusOnes(oneText, 1), 3, 127, -128, 32), 2));
        long blanks = on(minusOnes(oneText, 3), 60);
        for (int k = 0; k < 60; k++) blanks = on(blanks, 32);
        Edge.gives("a full text of blanks", x -> x.text(3, 60), x -> x.digest(), blanks);
    }

    static void digestOfToys() {
        Edge.sentence(39, "of each BEAD bead() 0 to 4; of each kept TOY how many DEEDS (-1: missing);");
        long counts = on(17, 14, 0, 0, 0, 28, 27, 14, 0, 0, 0, 1, 0);
        long beads = counts;
        for (int i = 0; i < 14; i++) beads = on(beads, 0, i % 10, i, 0, i % 10);
        Edge.gives("a toy", Edge.toy(Edge.PLAIN).then(x -> x.text(0, 0)), x -> x.digest(), minusOnes(on(minusOnes(beads, 3 + 6), 0), 3));
        for (int k = 0; k < 3; k++) {
            int place = k;
            long kept = on(17, 14, 0, 0, 0, 28, 27, 14, 0, 0, 0, 1, 1);
            for (int i = 0; i < 14; i++) kept = on(kept, 0, i % 10, i, 0, i % 10);
            long none = minusOnes(on(minusOnes(on(minusOnes(kept, place), 0), 2 - place + 6), 0), 3);
            long three = minusOnes(on(minusOnes(on(minusOnes(kept, place), 3), 2 - place + 6), 0), 3);
            long forty = minusOnes(on(minusOnes(on(minusOnes(kept, place), 40), 2 - place + 6), 0), 3);
            Edge.Setup there = Edge.toy(Edge.PLAIN).then(x -> x.text(0, 0));
            Edge.gives("a toy kept of no deeds", there.then(x -> x.keep(place)), x -> x.digest(), none);
            Edge.gives("a toy kept of three deeds", there.then(Edge.turns(0, 2, 0)).then(x -> x.keep(place)).then(x -> x.undo(0)), x -> x.digest(), three);
            Edge.gives("a toy kept of 40 deeds", there.then(Edge.exchanges(40)).then(x -> x.keep(place)).then(x -> x.undo(0)), x -> x.digest(), forty);
        }
        // Ring 1 on: beads 13, 0, 8, 9, 10, 4, 11, 12 in cells 0, 8, 9, 10, 4, 11, 12, 13, all borne; a glass one in cell 4.
        long turned = on(17, 14, 1, 1, 0, 3 + 1 + 2 + 3 + 0 + 5 + 6 + 7, 3 + 0 + 8 + 9 + 0 + 4 + 1 + 2, 6, 1, 0, 0, 1, 0);
        int[] lies = {8, 1, 2, 3, 11, 5, 6, 7, 9, 10, 4, 12, 13, 0};
        for (int i = 0; i < 14; i++) {
            int borne = i == 0 || i == 4 || i >= 8 ? 1 : 0;
            turned = i == 10 ? on(turned, 4, 5, 4, 1, 0) : on(turned, 0, i % 10, lies[i], borne, i % 10);
        }
        Edge.gives("a toy turned", Edge.toy(Edge.but(Edge.PLAIN, 10, "g5")).then(Edge.turns(2)).then(x -> x.text(0, 0)), x -> x.digest(), minusOnes(on(minusOnes(turned, 3 + 6), 0), 3));
        Edge.gives("what is asked, told, found is not in it", Edge.NEW, x -> {
            long before = x.digest();
            x.at(0, 0);
            x.row(0, -1);
            x.findings(5);
            return x.digest() - before;
        }, 0);
    }

    // ---- how long, how wild

    static void lastCall() {
        Edge.sentence(0, "An object is used for at most 512 calls after it has been made");
        CrossedRings x = new CrossedRings();
        Edge.write(x, 0, Edge.PLAIN);
        Edge.due("toy(0), the 30th call", x.toy(0), 14);
        for (int calls = 30; calls < 510; calls += 2) {
            Edge.due("turn(2)", x.turn(2), 3);
            Edge.due("undo(0)", x.undo(0), 1);
        }
        Edge.due("turn(3), the 511th call", x.turn(3), 8);
        Edge.due("count(2), the 512th call", x.count(2), 1);
    }

    /** Numbers at and beyond all edges, in every place of every call: none throws, none answers a refusal that is none. */
    static void wildNumbers() {
        Edge.sentence(0, "Nothing is promised beyond the answers and state changes described above");
        int[] wild = {Edge.LOW, -2, -1, 0, 1, 2, 3, 4, 5, 6, 9, 10, 12, 13, 14, 20, 21, 40, 41, 60, 61, 99, 100, Edge.HIGH};
        Edge.Setup[] states = {Edge.NEW, Edge.toy(Edge.PLAIN).then(Edge.row(0, 1, 3)).then(Edge.row(1, Edge.repeat(14, -1))).then(Edge.row(2)),
            Edge.toy(ROOTED).then(Edge.exchanges(40)).then(x -> x.keep(0)).then(Edge.row(0, Edge.repeat(40, 9)))};
        for (Method m : CrossedRings.class.getDeclaredMethods()) {
            if (!java.lang.reflect.Modifier.isPublic(m.getModifiers()) || m.getParameterCount() == 0) continue;
            for (Edge.Setup state : states) callWildly(m, state, wild);
        }
    }

    static void callWildly(Method m, Edge.Setup state, int[] wild) {
        int places = m.getParameterCount();
        int[] values = places <= 2 ? wild : new int[] {Edge.LOW, -1, 0, 1, 6, 14, 40, Edge.HIGH};
        int many = 1;
        for (int k = 0; k < places; k++) many *= values.length;
        CrossedRings x = Edge.made(state);
        for (int at = 0; at < many; at++) {
            if (at % 300 == 299) x = Edge.made(state);
            Object[] args = new Object[places];
            int rest = at;
            for (int k = 0; k < places; k++) {
                args[k] = values[rest % values.length];
                rest /= values.length;
            }
            Edge.due(m.getName() + java.util.Arrays.toString(args) + " answers a number that may be", mayBe(m, x, args) ? 1 : 0, 1);
        }
    }

    static boolean mayBe(Method m, CrossedRings x, Object[] args) {
        try {
            long got = ((Number) m.invoke(x, args)).longValue();
            return got >= 0 && got <= 1127 || got == Edge.BAD || got == Edge.FULL || got == Edge.FINDING || got == Edge.STATE || got == Edge.NONE;
        } catch (IllegalAccessException | InvocationTargetException e) {
            System.out.println(e.getCause());
            return false;
        }
    }
}
