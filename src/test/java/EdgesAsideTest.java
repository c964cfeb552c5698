import java.util.function.IntFunction;

/** The edges that the document names for what is asked aside: promises 20 to 29. */
public final class EdgesAsideTest {
    static final String ROOTED = Edge.but(Edge.PLAIN, 4, "r4");
    static final String STUCK = Edge.but(Edge.PLAIN, 0, "s0");
    static final int[] ANY = Edge.repeat(14, -1);
    static final int[] LONGEST = {0, 0, 2, 0, 2};

    public static void main(String[] args) {
        all();
        Edge.end("EdgesAsideTest");
    }

    static void all() {
        shows();
        run();
        rounds();
        roundsBarred();
        fewest();
        fewestFirst();
        picture();
        which();
        kinds();
        kindsBarred();
        colours();
        next();
        duel();
    }

    // ---- what is refused

    /** The grounds of a call by a row: STATE, BAD, NOTHING, SIZE, UNLIKE, each alone and each with those behind it. */
    static void fiveGrounds(IntFunction<Edge.Call> byRow, Edge.Call[] bad, int[] sizes, int good, int[] unlike) {
        Edge.Setup there = Edge.toy(Edge.but(Edge.PLAIN, 8, "t8")).then(Edge.turns(2, 0)).then(x -> x.keep(1));
        Edge.Setup bare = Edge.text(0, Edge.PLAIN);
        for (Edge.Setup rows : rowsAtFault(sizes, good, unlike)) {
            Edge.refuses("without beads", bare.then(rows), byRow.apply(2), Edge.STATE);
            for (int r : new int[] {6, -1, Edge.HIGH, Edge.LOW}) {
                Edge.refuses("of row " + r, there.then(rows), byRow.apply(r), Edge.BAD);
                Edge.refuses("of row " + r + " without beads", bare.then(rows), byRow.apply(r), Edge.STATE);
            }
            for (int k = 0; k < bad.length; k++) {
                Edge.refuses("bad number " + k, there.then(rows), bad[k], Edge.BAD);
                Edge.refuses("bad number " + k + " without beads", bare.then(rows), bad[k], Edge.STATE);
            }
        }
        findingsByRow(there, byRow, sizes, good, unlike);
    }

    static void findingsByRow(Edge.Setup there, IntFunction<Edge.Call> byRow, int[] sizes, int good, int[] unlike) {
        Edge.finds("a missing row", there, byRow.apply(2), Edge.NOTHING);
        Edge.finds("a torn row", there.then(Edge.row(2, Edge.repeat(good, 1))).then(x -> x.tear(2)), byRow.apply(2), Edge.NOTHING);
        for (int size : sizes) {
            Edge.finds("a row of " + size, there.then(Edge.row(2, Edge.repeat(size, 1))), byRow.apply(2), Edge.SIZE);
            if (size > 0) {
                Edge.finds("a row of " + size + " and unlike", there.then(Edge.row(2, Edge.repeat(size, 77))), byRow.apply(2), Edge.SIZE);
            }
        }
        for (int v : unlike) {
            for (int i : new int[] {0, good - 1}) {
                Edge.finds(v + " in place " + i, there.then(Edge.row(2, Edge.with(Edge.repeat(good, 1), i, v))), byRow.apply(2), Edge.UNLIKE);
            }
        }
    }

    /** A missing row, rows of a wrong size, rows with a number that is none, and a good one. */
    static Edge.Setup[] rowsAtFault(int[] sizes, int good, int[] unlike) {
        return new Edge.Setup[] {Edge.NEW, Edge.row(2, Edge.repeat(sizes[0], 1)), Edge.row(2, Edge.repeat(good, unlike[0])), Edge.row(2, Edge.repeat(good, 1))};
    }

    // ---- 3 what shows

    static void shows() {
        Edge.sentence(20, "What a BEAD would SHOW in a CELL, BORNE so often (0 .. 99), behind so many TURNS (0 .. 99).");
        Edge.Setup there = Edge.toy(Edge.but(Edge.PLAIN, 0, "t5", 13, "w9")).then(Edge.turns(2, 2, 0, 0)).then(x -> x.keep(0));
        Edge.gives("shows(0, 0, 0, 0)", there, x -> x.shows(0, 0, 0, 0), 5);
        Edge.gives("shows(0, 13, 99, 99)", there, x -> x.shows(0, 13, 99, 99), 4);
        Edge.gives("shows(13, 13, 0, 0)", there, x -> x.shows(13, 13, 0, 0), 9);
        Edge.gives("shows(13, 0, 0, 99)", there, x -> x.shows(13, 0, 0, 99), 0);
        Edge.alike("it changes nothing", there, there.then(x -> x.shows(0, 13, 99, 99)));

        Edge.sentence(20, "BAD (also without BEADS).");
        int[][] bad = {{14, 0, 0, 0}, {-1, 0, 0, 0}, {0, 14, 0, 0}, {0, -1, 0, 0}, {0, 0, 100, 0}, {0, 0, -1, 0}, {0, 0, 0, 100}, {0, 0, 0, -1},
            {Edge.HIGH, 0, 0, 0}, {0, Edge.LOW, 0, 0}, {0, 0, Edge.HIGH, 0}, {0, 0, 0, Edge.LOW}};
        for (int[] b : bad) {
            Edge.refuses("shows(" + b[0] + ", " + b[1] + ", " + b[2] + ", " + b[3] + ")", there, x -> x.shows(b[0], b[1], b[2], b[3]), Edge.BAD);
        }
        Edge.refuses("shows(0, 0, 0, 0) without beads", Edge.text(0, Edge.PLAIN), x -> x.shows(0, 0, 0, 0), Edge.BAD);
    }

    static void run() {
        Edge.sentence(21, "What all CELLS SHOW behind MOVES of a ROW (0 to 20 ints), one behind the other, up to the first that is BARRED, comes to a ROW (anew; 14 ints): how many MOVES were made.");
        int[] now = {0, 1, 2, 3, 4, 5, 6, 7, 8, 9, 0, 1, 2, 3};
        Edge.Setup plain = Edge.toy(Edge.PLAIN);
        Edge.gives("run of none", plain.then(x -> x.row(2, 0)), x -> x.run(2, 3), 0);
        Edge.lies("run of none", plain.then(x -> x.row(2, 0)).then(x -> x.run(2, 3)), 3, now);
        Edge.gives("run of 20", plain.then(Edge.row(2, Edge.repeat(20, 3))), x -> x.run(2, 3), 20);
        Edge.lies("run of 20: half a round of ring 1", plain.then(Edge.row(2, Edge.repeat(20, 3))).then(x -> x.run(2, 3)), 3, 4, 1, 2, 3, 0, 5, 6, 7, 1, 2, 3, 8, 9, 0);
        Edge.lies("run from 0 to 5", plain.then(Edge.row(0, 0)).then(x -> x.run(0, 5)), 5, 7, 0, 1, 2, 3, 4, 5, 6, 8, 9, 0, 1, 2, 3);
        Edge.lies("run to a row of 40", plain.then(Edge.row(2, 0)).then(Edge.row(3, Edge.repeat(40, 7))).then(x -> x.run(2, 3)), 3, 7, 0, 1, 2, 3, 4, 5, 6, 8, 9, 0, 1, 2, 3);
        Edge.lies("run to itself", plain.then(Edge.row(2, 0, 1)).then(x -> x.run(2, 2)), 2, now);
        Edge.alike("a run leaves the toy", plain.then(Edge.turns(0)).then(Edge.row(2, 2)).then(Edge.row(3, 3, 0, 1, 2, 0, 4, 5, 6, 7, 8, 9, 3, 1, 2)), plain.then(Edge.turns(0)).then(Edge.row(2, 2)).then(x -> x.run(2, 3)));
        Edge.lies("run from a toy that was turned", plain.then(Edge.turns(0)).then(Edge.row(2, 0)).then(x -> x.run(2, 3)), 3, 6, 7, 0, 1, 2, 3, 4, 5, 8, 9, 0, 1, 2, 3);
        Edge.lies("a tinted, a glass, a worn one behind four moves", Edge.toy(Edge.but(Edge.NOUGHTS, 8, "t9", 9, "g1", 7, "w9")).then(Edge.row(2, 2, 2, 2, 2)).then(x -> x.run(2, 3)), 3,
            0, 0, 0, 0, 0, 0, 0, 8, 0, 0, 0, 3, 5, 0);

        Edge.Setup soon = Edge.toy(Edge.but(Edge.PLAIN, 3, "r3"));
        Edge.gives("run up to a root in cell 4", soon.then(Edge.row(2, 0, 0, 1, 2)), x -> x.run(2, 3), 1);
        Edge.lies("run up to a root in cell 4", soon.then(Edge.row(2, 0, 0, 1, 2)).then(x -> x.run(2, 3)), 3, 7, 0, 1, 2, 3, 4, 5, 6, 8, 9, 0, 1, 2, 3);
        Edge.gives("run, barred at once", Edge.toy(STUCK).then(Edge.row(2, 2, 0)), x -> x.run(2, 3), 0);
        Edge.lies("run, barred at once", Edge.toy(STUCK).then(Edge.row(2, 2, 0)).then(x -> x.run(2, 3)), 3, now);
        Edge.gives("run, barred at the last", Edge.toy(STUCK).then(Edge.row(2, 0, 2, 1, 3)), x -> x.run(2, 3), 3);
        Edge.gives("run, the other ring is barred", Edge.toy(STUCK).then(Edge.row(2, 0, 2, 1, 0)), x -> x.run(2, 3), 4);

        Edge.sentence(21, "STATE: no BEADS; BAD; NOTHING; SIZE; UNLIKE: not 0 .. 3. (In this order.)");
        Edge.Call[] bad = {x -> x.run(2, 6), x -> x.run(2, -1), x -> x.run(2, Edge.HIGH)};
        fiveGrounds(r -> x -> x.run(r, 3), bad, new int[] {21, 40}, 20, new int[] {-1, 4, Edge.LOW, Edge.HIGH});
        fiveGrounds(r -> x -> x.run(r, 2), bad, new int[] {21, 40}, 1, new int[] {-1, 4});
        Edge.finds("UNLIKE behind a move that is barred", Edge.toy(STUCK).then(Edge.row(2, 2, 4)), x -> x.run(2, 3), Edge.UNLIKE);
        Edge.gives("a row that is missing may be run to", plain.then(Edge.row(2, 3)), x -> x.run(2, 3), 1);
    }

    // ---- rounds

    /** The least common multiple of the cycles that a row of moves makes of the cells: apart from the class's way. */
    static int cyclesOf(int[] moves) {
        int[][] rings = {{0, 1, 2, 3, 4, 5, 6, 7}, {0, 8, 9, 10, 4, 11, 12, 13}};
        int[] goes = Edge.upTo(14);
        for (int i = 0; i < 14; i++) {
            for (int move : moves) {
                int[] ring = rings[move / 2];
                for (int k = 0; k < 8; k++) {
                    if (ring[k] == goes[i]) {
                        goes[i] = ring[(k + (move % 2 == 0 ? 1 : 7)) % 8];
                        break;
                    }
                }
            }
        }
        int all = 1;
        for (int i = 0; i < 14; i++) {
            int length = 1;
            for (int c = goes[i]; c != i; c = goes[c]) length++;
            int a = all;
            int b = length;
            while (b != 0) {
                int rest = a % b;
                a = b;
                b = rest;
            }
            all = all / a * length;
        }
        return all;
    }

    static void rounds() {
        Edge.sentence(22, "How often all MOVES of a ROW (1 to 20 ints) are to be made, one behind the other, till each BEAD lies where it lies now (1 .. 200).");
        Edge.Setup plain = Edge.toy(Edge.PLAIN);
        Edge.gives("rounds of 0, 1", plain.then(Edge.row(2, 0, 1)), x -> x.rounds(2), 1);
        for (int m = 0; m < 4; m++) {
            int move = m;
            Edge.gives("rounds of a move", plain.then(Edge.row(2, move)), x -> x.rounds(2), 8);
            Edge.gives("rounds of 20 moves alike", plain.then(Edge.row(2, Edge.repeat(20, move))), x -> x.rounds(2), 2);
            Edge.gives("rounds of 8 moves alike", plain.then(Edge.row(5, Edge.repeat(8, move))), x -> x.rounds(5), 1);
        }
        // Opposite cells of a ring stay opposite, so no row takes more than 24 rounds: 200 is never come to.
        int[][] rows = {{0, 2}, {0, 3}, {0, 0, 2}, {0, 2, 1, 3}, {0, 2, 0, 3}, {0, 0, 2, 1, 3}, {0, 0, 2, 2}, {0, 2, 2, 2}, {0, 0, 0, 2, 0, 2}, LONGEST};
        for (int[] row : rows) {
            Edge.gives("rounds of " + row.length + " moves", plain.then(Edge.row(2, row)), x -> x.rounds(2), cyclesOf(row));
        }
        Edge.gives("rounds of the longest", plain.then(Edge.row(2, LONGEST)), x -> x.rounds(2), 24);
        Edge.gives("where beads lie counts, not what shows", Edge.toy(Edge.NOUGHTS).then(Edge.row(2, 0)), x -> x.rounds(2), 8);
        Edge.gives("though tinted ones show another colour", Edge.toy(Edge.but(Edge.PLAIN, 8, "t8")).then(Edge.row(2, 2)), x -> x.rounds(2), 8);
        Edge.gives("where it lies now, not at first", plain.then(Edge.turns(0, 2)).then(x -> x.exchange(1, 9)).then(Edge.row(2, 0)), x -> x.rounds(2), 8);
        Edge.alike("it changes nothing", plain.then(Edge.turns(0)).then(Edge.row(2, 0, 2)), plain.then(Edge.turns(0)).then(Edge.row(2, 0, 2)).then(x -> x.rounds(2)));

        Edge.sentence(22, "STATE; BAD; NOTHING; SIZE; UNLIKE. (In this order.)");
        fiveGrounds(r -> x -> x.rounds(r), new Edge.Call[0], new int[] {0, 21, 40}, 20, new int[] {-1, 4, Edge.LOW, Edge.HIGH});
        fiveGrounds(r -> x -> x.rounds(r), new Edge.Call[0], new int[] {21, 0}, 1, new int[] {4, -1});
        Edge.finds("UNLIKE behind a move that is barred", Edge.toy(STUCK).then(Edge.row(2, 2, 4)), x -> x.rounds(2), Edge.UNLIKE);
    }

    static void roundsBarred() {
        Edge.sentence(22, "NONE: not by then, or one is BARRED ahead.");
        Edge.none("barred at once", Edge.toy(STUCK).then(Edge.row(2, 2)), x -> x.rounds(2));
        Edge.none("barred at the last move of the first round", Edge.toy(Edge.but(Edge.PLAIN, 3, "s3")).then(Edge.row(2, 0, 2)), x -> x.rounds(2));
        Edge.none("barred in the second round", Edge.toy(Edge.but(Edge.PLAIN, 13, "s3")).then(Edge.row(2, 2)), x -> x.rounds(2));
        Edge.none("barred in the last round", Edge.toy(Edge.but(Edge.PLAIN, 8, "s3")).then(Edge.row(2, 2)), x -> x.rounds(2));
        Edge.none("a root comes to cell 4", Edge.toy(Edge.but(Edge.PLAIN, 5, "r3")).then(Edge.row(2, 0)), x -> x.rounds(2));
        Edge.gives("a stuck one bars no ring 0", Edge.toy(Edge.but(Edge.PLAIN, 5, "s3")).then(Edge.row(2, 0)), x -> x.rounds(2), 8);
        Edge.gives("all lies as it lay ahead of what would be barred", Edge.toy(Edge.but(Edge.PLAIN, 3, "s3")).then(Edge.row(2, 2, 3)), x -> x.rounds(2), 1);
        Edge.gives("what is barred at the end only", Edge.toy(STUCK).then(Edge.row(2, 0, 2, 3, 1)), x -> x.rounds(2), 1);
    }

    // ---- 4 the fewest moves

    static void fewest() {
        Edge.sentence(23, "The fewest MOVES (0 to 5) behind which a CELL SHOWS a COLOUR; the first such come to a ROW (anew). NONE: by none of these.");
        // A tinted one in cell 8 shows 5 behind five moves of ring 1 alone, and lies in cell 12 by five on.
        Edge.Setup tinted = Edge.toy(Edge.but(Edge.NOUGHTS, 8, "t0")).then(Edge.row(3, 7, 7, 7, 7, 7, 7));
        Edge.gives("five", tinted, x -> x.fewest(12, 5, 3), 5);
        Edge.lies("five", tinted.then(x -> x.fewest(12, 5, 3)), 3, 2, 2, 2, 2, 2);
        Edge.gives("four", tinted, x -> x.fewest(11, 4, 3), 4);
        Edge.lies("four", tinted.then(x -> x.fewest(11, 4, 3)), 3, 2, 2, 2, 2);
        Edge.none("six", tinted, x -> x.fewest(13, 6, 3));
        Edge.none("a colour that no bead shows", tinted, x -> x.fewest(13, 9, 3));
        Edge.gives("none", tinted, x -> x.fewest(13, 0, 3), 0);
        Edge.lies("none: the row is there, empty", tinted.then(x -> x.fewest(13, 0, 3)), 3);
        Edge.none("NONE leaves a missing row missing", Edge.toy(Edge.NOUGHTS), x -> x.fewest(0, 1, 5));
        Edge.lies("to a missing row", Edge.toy(Edge.PLAIN).then(x -> x.fewest(0, 7, 5)), 5, 0);
        Edge.gives("cell 0, colour 0", Edge.toy(Edge.PLAIN), x -> x.fewest(0, 0, 0), 0);
        Edge.gives("cell 13, colour 9", Edge.toy(Edge.but(Edge.PLAIN, 13, "b9")), x -> x.fewest(13, 9, 5), 0);
        Edge.alike("it leaves the toy", Edge.toy(Edge.PLAIN).then(Edge.turns(2)).then(Edge.row(1, 1)), Edge.toy(Edge.PLAIN).then(Edge.turns(2)).then(x -> x.fewest(0, 1, 1)));
        Edge.gives("a worn one is worn out by moves", Edge.toy(Edge.but(Edge.NOUGHTS, 2, "w5", 3, "w5")).then(Edge.turns(2)), x -> x.fewest(2, 4, 1), 3);
        Edge.lies("by the first such", Edge.toy(Edge.but(Edge.NOUGHTS, 2, "w5", 3, "w5")).then(Edge.turns(2)).then(x -> x.fewest(2, 4, 1)), 1, 0, 1, 1);
        Edge.gives("a glass one shows nought in a crossing", Edge.toy("g1b1b1b1b1b1b1b1b1b1b1b1b1b1"), x -> x.fewest(0, 0, 1), 0);
        Edge.none("and nowhere else", Edge.toy("g1b1b1b1b1b1b1b1b1b1b1b1b1b1"), x -> x.fewest(8, 0, 1));

        Edge.sentence(23, "STATE: no BEADS; BAD. (In this order.)");
        Edge.Setup there = Edge.toy(Edge.PLAIN).then(Edge.row(0, 5)).then(Edge.turns(0));
        int[][] bad = {{14, 0, 0}, {-1, 0, 0}, {0, 10, 0}, {0, -1, 0}, {0, 0, 6}, {0, 0, -1}, {Edge.HIGH, 0, 0}, {0, Edge.HIGH, 0}, {0, Edge.LOW, 0}, {0, 0, Edge.LOW}};
        for (int[] b : bad) {
            String call = "fewest(" + b[0] + ", " + b[1] + ", " + b[2] + ")";
            Edge.refuses(call, there, x -> x.fewest(b[0], b[1], b[2]), Edge.BAD);
            Edge.refuses(call + " without beads", Edge.row(0, 5), x -> x.fewest(b[0], b[1], b[2]), Edge.STATE);
        }
        Edge.refuses("fewest(0, 0, 0) without beads", Edge.text(0, Edge.PLAIN).then(Edge.row(0, 5)), x -> x.fewest(0, 0, 0), Edge.STATE);
    }

    static void firstIs(String toy, int c, int colour, int... moves) {
        Edge.gives("fewest(" + c + ", " + colour + ", 1) of " + toy, Edge.toy(toy), x -> x.fewest(c, colour, 1), moves.length);
        Edge.lies("fewest(" + c + ", " + colour + ", 1) of " + toy, Edge.toy(toy).then(x -> x.fewest(c, colour, 1)), 1, moves);
    }

    static void fewestFirst() {
        Edge.sentence(23, "the first such come to a ROW (anew)");
        firstIs(Edge.but(Edge.NOUGHTS, 7, "b5", 1, "b5", 13, "b5", 8, "b5"), 0, 5, 0);
        firstIs(Edge.but(Edge.NOUGHTS, 1, "b5", 13, "b5", 8, "b5"), 0, 5, 1);
        firstIs(Edge.but(Edge.NOUGHTS, 13, "b5", 8, "b5"), 0, 5, 2);
        firstIs(Edge.but(Edge.NOUGHTS, 8, "b5"), 0, 5, 3);
        firstIs(Edge.but(Edge.NOUGHTS, 7, "b5", 1, "b5"), 8, 5, 0, 2);
        firstIs(Edge.but(Edge.NOUGHTS, 1, "b5"), 8, 5, 1, 2);
        firstIs(Edge.but(Edge.NOUGHTS, 1, "b5"), 13, 5, 1, 3);
        firstIs(Edge.but(Edge.NOUGHTS, 12, "b5"), 0, 5, 2, 2);
        firstIs(Edge.but(Edge.NOUGHTS, 8, "b5"), 7, 5, 3, 1);

        Edge.sentence(0, "---- 4 the fewest moves (aside; MOVES that are BARRED are not made).");
        firstIs(Edge.but(Edge.NOUGHTS, 0, "s0", 13, "b5"), 0, 5, 0, 2);
        firstIs(Edge.but(Edge.NOUGHTS, 4, "s0", 13, "b5"), 12, 5, 0, 3);
        firstIs(Edge.but(Edge.NOUGHTS, 3, "s0", 13, "b5"), 1, 5, 2, 0);
        Edge.none("a root bars all", Edge.toy(Edge.but(Edge.NOUGHTS, 4, "r0", 13, "b5")), x -> x.fewest(0, 5, 1));
        Edge.none("a root bars all", Edge.toy(Edge.but(Edge.NOUGHTS, 4, "r0", 7, "b5")), x -> x.fewest(0, 5, 1));
        Edge.gives("a root bars no question of what shows now", Edge.toy(Edge.but(Edge.NOUGHTS, 4, "r0", 7, "b5")), x -> x.fewest(7, 5, 1), 0);
        firstIs(Edge.but(Edge.NOUGHTS, 3, "r0", 7, "b5"), 0, 5, 0);
        firstIs(Edge.but(Edge.NOUGHTS, 3, "r0", 5, "b5"), 0, 5, 1, 1, 1, 1, 1);
        Edge.none("six back", Edge.toy(Edge.but(Edge.NOUGHTS, 3, "r0", 6, "b5")), x -> x.fewest(0, 5, 1));
    }

    static void picture() {
        Edge.sentence(24, "The fewest MOVES (0 to 5) behind which CELLS SHOW as a ROW tells, CELL by CELL (14 ints: -1: as it will, 0 .. 9); the first such come to a ROW (anew). NONE: by none of these.");
        int[] now = {0, 1, 2, 3, 4, 5, 6, 7, 8, 9, 0, 1, 2, 3};
        int[] on = {7, 0, 1, 2, 3, 4, 5, 6, 8, 9, 0, 1, 2, 3};
        Edge.Setup plain = Edge.toy(Edge.PLAIN).then(Edge.row(3, 8, 8, 8, 8, 8, 8));
        Edge.gives("as it will", plain.then(Edge.row(2, ANY)), x -> x.picture(2, 3), 0);
        Edge.lies("as it will", plain.then(Edge.row(2, ANY)).then(x -> x.picture(2, 3)), 3);
        Edge.gives("as it is", plain.then(Edge.row(2, now)), x -> x.picture(2, 3), 0);
        Edge.gives("ring 0 on", plain.then(Edge.row(2, on)), x -> x.picture(2, 3), 1);
        Edge.lies("ring 0 on", plain.then(Edge.row(2, on)).then(x -> x.picture(2, 3)), 3, 0);
        Edge.lies("ring 0 on, to the row itself", plain.then(Edge.row(2, on)).then(x -> x.picture(2, 2)), 2, 0);
        Edge.lies("ring 0 on, to a missing row", plain.then(Edge.row(2, on)).then(x -> x.picture(2, 5)), 5, 0);
        Edge.lies("ring 0 on, to another row: the picture stays", plain.then(Edge.row(2, on)).then(x -> x.picture(2, 5)), 2, on);
        for (int k = 0; k < 14; k++) {
            int c = k;
            Edge.none("as it is but for cell " + c, Edge.toy(Edge.NOUGHTS).then(Edge.row(2, Edge.with(new int[14], c, 9))), x -> x.picture(2, 3));
            Edge.gives("as it is, cell " + c + " as it will", plain.then(Edge.row(2, Edge.with(now, c, -1))), x -> x.picture(2, 3), 0);
        }
        Edge.Setup tinted = Edge.toy(Edge.but(Edge.NOUGHTS, 8, "t0")).then(Edge.row(3, 7));
        Edge.gives("five", tinted.then(Edge.row(2, Edge.with(new int[14], 12, 5))), x -> x.picture(2, 3), 5);
        Edge.lies("five", tinted.then(Edge.row(2, Edge.with(new int[14], 12, 5))).then(x -> x.picture(2, 3)), 3, 2, 2, 2, 2, 2);
        Edge.none("six", tinted.then(Edge.row(2, Edge.with(new int[14], 13, 6))), x -> x.picture(2, 3));
        Edge.none("six, to itself", tinted.then(Edge.row(2, Edge.with(new int[14], 13, 6))), x -> x.picture(2, 2));
        Edge.none("what is barred", Edge.toy(STUCK).then(Edge.row(2, 3, 1, 2, 3, 0, 5, 6, 7, 0, 8, 9, 4, 1, 2)), x -> x.picture(2, 3));
        Edge.lies("the first of two", Edge.toy(Edge.but(Edge.NOUGHTS, 1, "b5", 13, "b5")).then(Edge.row(2, Edge.with(ANY, 0, 5))).then(x -> x.picture(2, 3)), 3, 1);
        Edge.alike("it leaves the toy", plain.then(Edge.row(2, on)).then(Edge.row(3, 0)), plain.then(Edge.row(2, on)).then(x -> x.picture(2, 3)));

        Edge.sentence(24, "STATE; BAD; NOTHING; SIZE; UNLIKE. (In this order.)");
        Edge.Call[] bad = {x -> x.picture(2, 6), x -> x.picture(2, -1), x -> x.picture(2, Edge.LOW)};
        fiveGrounds(r -> x -> x.picture(r, 3), bad, new int[] {13, 0, 15, 40}, 14, new int[] {-2, 10, Edge.LOW, Edge.HIGH});
        fiveGrounds(r -> x -> x.picture(r, 2), bad, new int[] {15, 0, 13, 28}, 14, new int[] {10, -2});
    }

    static void which() {
        Edge.sentence(25, "Which MOVES (bits), each made now, not BARRED, make CELLS SHOW as a ROW tells (likewise).");
        Edge.Setup plain = Edge.toy(Edge.PLAIN);
        Edge.gives("as it will", plain.then(Edge.row(2, ANY)), x -> x.which(2), 15);
        Edge.gives("as it is", plain.then(Edge.row(2, 0, 1, 2, 3, 4, 5, 6, 7, 8, 9, 0, 1, 2, 3)), x -> x.which(2), 0);
        Edge.gives("as it is, where all show alike", Edge.toy(Edge.NOUGHTS).then(Edge.row(2, new int[14])), x -> x.which(2), 15);
        int[] first = {7, 1, 3, 8};
        for (int m = 0; m < 4; m++) {
            int move = m;
            Edge.gives("what cell 0 shows behind move " + move, plain.then(Edge.row(2, Edge.with(ANY, 0, first[move]))), x -> x.which(2), 1 << move);
        }
        Edge.gives("what cell 13 shows unless ring 1 is moved", plain.then(Edge.row(2, Edge.with(ANY, 13, 3))), x -> x.which(2), 3);
        Edge.gives("what cell 1 shows unless ring 0 is moved", plain.then(Edge.row(2, Edge.with(ANY, 1, 1))), x -> x.which(2), 12);
        Edge.gives("a nine", Edge.toy(Edge.but(Edge.PLAIN, 13, "b9")).then(Edge.row(2, Edge.with(ANY, 0, 9))), x -> x.which(2), 4);
        Edge.gives("ring 1 barred", Edge.toy(STUCK).then(Edge.row(2, ANY)), x -> x.which(2), 3);
        Edge.gives("both barred", Edge.toy(ROOTED).then(Edge.row(2, ANY)), x -> x.which(2), 0);
        Edge.gives("ring 1 barred, a stuck one in cell 4", Edge.toy(Edge.but(Edge.PLAIN, 4, "s4")).then(Edge.row(2, ANY)), x -> x.which(2), 3);
        Edge.gives("each made now: a worn one behind three turns", Edge.toy(Edge.but(Edge.NOUGHTS, 13, "w5")).then(Edge.turns(0, 0, 0)).then(Edge.row(2, Edge.with(ANY, 13, 4))), x -> x.which(2), 3);
        Edge.gives("each made now: a tinted one is borne once", Edge.toy("t0b9b9b9b9b9b9b9b9b9b9b9b9b9").then(Edge.row(2, Edge.with(ANY, 13, 1))), x -> x.which(2), 8);
        Edge.alike("it changes nothing", plain.then(Edge.turns(0, 2)).then(Edge.row(2, ANY)), plain.then(Edge.turns(0, 2)).then(Edge.row(2, ANY)).then(x -> x.which(2)));

        Edge.sentence(25, "STATE; BAD; NOTHING; SIZE; UNLIKE. (In this order.)");
        fiveGrounds(r -> x -> x.which(r), new Edge.Call[0], new int[] {13, 0, 15, 40}, 14, new int[] {-2, 10, Edge.LOW, Edge.HIGH});
    }

    // ---- 5 which kind, which colour

    /** The grounds of a call by pairs: BAD (also without beads), NOTHING, SIZE, UNLIKE. */
    static void fourGrounds(IntFunction<Edge.Call> byRow, IntFunction<Edge.Call> byBead) {
        Edge.Setup there = Edge.toy(Edge.but(Edge.PLAIN, 8, "t8")).then(Edge.turns(2, 0)).then(x -> x.keep(1));
        int[] sizes = {1, 3, 15, 17, 18, 40};
        for (Edge.Setup rows : rowsAtFault(sizes, 16, new int[] {77})) {
            Edge.refuses("without beads", Edge.text(0, Edge.PLAIN).then(rows), byRow.apply(2), Edge.BAD);
            for (int r : new int[] {6, -1, Edge.HIGH, Edge.LOW}) Edge.refuses("of row " + r, there.then(rows), byRow.apply(r), Edge.BAD);
            for (int i : new int[] {14, -1, Edge.HIGH, Edge.LOW}) Edge.refuses("of bead " + i, there.then(rows), byBead.apply(i), Edge.BAD);
        }
        Edge.refuses("of no pairs without beads", Edge.row(2), byRow.apply(2), Edge.BAD);
        findingsByRow(there, byRow, sizes, 16, new int[] {-1, 10, Edge.LOW, Edge.HIGH});
        findingsByRow(there, byRow, sizes, 2, new int[] {-1, 10});
        for (int i = 0; i < 16; i += 2) {
            Edge.finds("4, no move, in place " + i, there.then(Edge.row(2, Edge.with(Edge.repeat(16, 1), i, 4))), byRow.apply(2), Edge.UNLIKE);
        }
        Edge.finds("UNLIKE behind a move that is barred", Edge.toy(STUCK).then(Edge.row(2, 2, 0, 4, 0)), byRow.apply(2), Edge.UNLIKE);
        Edge.finds("UNLIKE behind what it does not show", Edge.toy(Edge.PLAIN).then(Edge.row(2, 2, 5, 2, 10)), byRow.apply(2), Edge.UNLIKE);
    }

    static void kindsBy(String toy, int i, int want, int... pairs) {
        Edge.gives("kinds of bead " + i + " of " + toy, Edge.toy(toy).then(Edge.row(2, pairs)), x -> x.kinds(i, 2), want);
    }

    static final int B = 1, T = 2, W = 4, S = 8, G = 16, R = 32;

    static void kinds() {
        Edge.sentence(0, "(a ROW of 0 to 8 pairs: a MOVE, each made behind those ahead, what a BEAD SHOWS then, 0 .. 9; of none that is BARRED it is so).");
        kindsBy(Edge.PLAIN, 8, 63);
        kindsBy(Edge.PLAIN, 8, B | W | S | R, 2, 8);
        kindsBy(Edge.PLAIN, 8, T | G, 2, 9);
        kindsBy(Edge.PLAIN, 8, 0, 2, 7);
        kindsBy(Edge.PLAIN, 8, 63 - W, Edge.repeat(8, 0, 8));
        kindsBy(Edge.PLAIN, 8, W, 0, 8, 1, 8, 0, 8, 1, 7, 0, 7, 1, 7, 0, 7, 1, 6);
        kindsBy(Edge.PLAIN, 8, 0, 0, 8, 1, 8, 0, 8, 1, 7, 0, 7, 1, 7, 0, 7, 1, 7);
        kindsBy(Edge.PLAIN, 9, T, 2, 0, 2, 1);
        kindsBy(Edge.PLAIN, 9, G, 2, 0, 2, 0);
        kindsBy(Edge.PLAIN, 9, B | W | S | R, 2, 9, 2, 9);
        kindsBy(Edge.PLAIN, 13, T | G, 3, 4, 3, 5);
        kindsBy(Edge.PLAIN, 0, 63, 0, 0);
        kindsBy(Edge.but(Edge.PLAIN, 3, "b0"), 3, 63, 0, 0);
        kindsBy(Edge.PLAIN, 3, G, 0, 0);

        Edge.sentence(26, "Of which KINDS (bits) a BEAD can be by these, all else as it is.");
        for (String item : new String[] {"b8", "t8", "w8", "s8", "g8", "r8"}) {
            kindsBy(Edge.but(Edge.PLAIN, 8, item), 8, B | W | S | R, 2, 8);
            kindsBy(Edge.but(Edge.PLAIN, 8, item), 8, T | G, 2, 9);
        }
        Edge.gives("borne once", Edge.toy(Edge.PLAIN).then(Edge.turns(2)).then(Edge.row(2, 0, 9)), x -> x.kinds(8, 2), T | G);
        Edge.gives("behind three turns", Edge.toy(Edge.PLAIN).then(Edge.turns(0, 0, 0)).then(Edge.row(2, 0, 7)), x -> x.kinds(8, 2), W);
        Edge.alike("it changes nothing", Edge.toy(Edge.PLAIN).then(Edge.turns(2)).then(Edge.row(2, 0, 9)), Edge.toy(Edge.PLAIN).then(Edge.turns(2)).then(Edge.row(2, 0, 9)).then(x -> x.kinds(8, 2)));

        Edge.sentence(26, "BAD; NOTHING; SIZE; UNLIKE.");
        fourGrounds(r -> x -> x.kinds(8, r), i -> x -> x.kinds(i, 2));
    }

    static void kindsBarred() {
        Edge.sentence(0, "of none that is BARRED it is so");
        kindsBy(STUCK, 8, 0, 2, 8);
        kindsBy(STUCK, 8, 63, 0, 8);
        kindsBy(STUCK, 8, 63);
        kindsBy(ROOTED, 8, 0, 0, 8);
        kindsBy(ROOTED, 4, 63 - R, 0, 4);
        kindsBy(ROOTED, 4, B | W, 2, 4);
        kindsBy(STUCK, 0, B | W, 2, 0);
        // By three on it lies in cell 4: as a stuck one it bars ring 1 then, as a root both.
        kindsBy(Edge.PLAIN, 8, B | W | S | R, 2, 8, 2, 8, 2, 8);
        kindsBy(Edge.PLAIN, 8, B, 2, 8, 2, 8, 2, 8, 2, 8);
        kindsBy(Edge.PLAIN, 8, B | S, 2, 8, 2, 8, 2, 8, 0, 8);
        // By one back it lies in cell 0, where a root bars no ring 0.
        kindsBy(Edge.PLAIN, 8, B | W | S | R, 3, 8, 0, 8);
        kindsBy(Edge.PLAIN, 8, B | W, 3, 8, 3, 8);
    }

    static void coloursBy(String toy, int i, int want, int... pairs) {
        Edge.gives("colours of bead " + i + " of " + toy, Edge.toy(toy).then(Edge.row(2, pairs)), x -> x.colours(i, 2), want);
    }

    static void colours() {
        Edge.sentence(27, "Which COLOURS (bits) as told a BEAD can have by these, all else as it is.");
        for (String item : new String[] {"b8", "t8", "w8", "s8", "g8", "r8"}) coloursBy(Edge.but(Edge.PLAIN, 8, item), 8, 1023);
        coloursBy(Edge.PLAIN, 8, 1, 2, 0);
        coloursBy(Edge.PLAIN, 8, 1 << 9, 2, 9);
        coloursBy(Edge.PLAIN, 8, 0, 2, 9, 2, 8);
        coloursBy(Edge.PLAIN, 8, 1 << 8, Edge.repeat(8, 2, 8));
        coloursBy(Edge.but(Edge.PLAIN, 8, "t0"), 8, 1 << 9, 2, 0);
        coloursBy(Edge.but(Edge.PLAIN, 8, "t0"), 8, 1, 2, 1);
        coloursBy(Edge.but(Edge.PLAIN, 8, "t0"), 8, 1 << 8, 2, 9);
        coloursBy(Edge.but(Edge.PLAIN, 8, "t0"), 8, 1 << 5, 2, 6, 2, 7, 2, 8, 2, 9, 2, 0, 2, 1, 2, 2, 2, 3);
        coloursBy(Edge.but(Edge.PLAIN, 3, "g0"), 3, 1023, 0, 0);
        coloursBy(Edge.but(Edge.PLAIN, 3, "g0"), 3, 0, 0, 1);
        coloursBy(Edge.but(Edge.PLAIN, 8, "w0"), 8, 1, 0, 0, 0, 0, 0, 0, 0, 0);
        coloursBy(Edge.but(Edge.PLAIN, 8, "w0"), 8, 2, 0, 1, 0, 1, 0, 1, 0, 0);
        coloursBy(Edge.but(Edge.PLAIN, 8, "w0"), 8, 1 << 9, 0, 9, 0, 9, 0, 9, 0, 8);
        Edge.gives("worn, behind three turns: nought by nought or one", Edge.toy(Edge.but(Edge.PLAIN, 8, "w5")).then(Edge.turns(0, 0, 0)).then(Edge.row(2, 0, 0)), x -> x.colours(8, 2), 3);
        Edge.gives("worn, behind three turns: eight by nine", Edge.toy(Edge.but(Edge.PLAIN, 8, "w5")).then(Edge.turns(0, 0, 0)).then(Edge.row(2, 0, 8)), x -> x.colours(8, 2), 512);
        Edge.gives("worn, behind three turns: nine by none", Edge.toy(Edge.but(Edge.PLAIN, 8, "w5")).then(Edge.turns(0, 0, 0)).then(Edge.row(2, 0, 9)), x -> x.colours(8, 2), 0);
        Edge.gives("worn out: by all", Edge.toy(Edge.but(Edge.PLAIN, 8, "w5")).then(Edge.turns(Edge.repeat(36, 0))).then(Edge.row(2, 0, 0)), x -> x.colours(8, 2), 1023);
        Edge.gives("worn but for a turn: by all but nine", Edge.toy(Edge.but(Edge.PLAIN, 8, "w5")).then(Edge.turns(Edge.repeat(34, 0))).then(Edge.row(2, 0, 0)), x -> x.colours(8, 2), 511);
        Edge.gives("tinted, borne once", Edge.toy(Edge.but(Edge.PLAIN, 8, "t5")).then(Edge.turns(2)).then(Edge.row(2, 0, 0)), x -> x.colours(8, 2), 512);
        coloursBy(STUCK, 8, 0, 2, 8);
        coloursBy(STUCK, 0, 0, 2, 0);
        coloursBy(ROOTED, 4, 0, 0, 4);
        coloursBy(ROOTED, 4, 1023);
        coloursBy(STUCK, 0, 1 << 7, 0, 7);
        Edge.alike("it changes nothing", Edge.toy(Edge.PLAIN).then(Edge.turns(2)).then(Edge.row(2, 0, 9)), Edge.toy(Edge.PLAIN).then(Edge.turns(2)).then(Edge.row(2, 0, 9)).then(x -> x.colours(8, 2)));

        Edge.sentence(27, "BAD; NOTHING; SIZE; UNLIKE.");
        fourGrounds(r -> x -> x.colours(8, r), i -> x -> x.colours(i, 2));
    }

    static void nextBy(String toy, int i, int move, int part, int... pairs) {
        Edge.Setup there = Edge.toy(toy).then(Edge.row(2, pairs));
        Edge.gives("next of bead " + i + " of " + toy, there, x -> x.next(i, 2), move);
        Edge.gives("next of bead " + i + " of " + toy + ", then asked()", there.then(x -> x.next(i, 2)), x -> x.asked(), part);
        Edge.alike("next leaves all else", there.then(x -> x.next(i, 2)).then(x -> x.bead(0, 0)), there.then(x -> x.bead(0, 0)));
    }

    static void next() {
        Edge.sentence(28, "The MOVE (the first) to make now to tell these KINDS apart best: the greatest part of which it SHOWS alike then, or is BARRED, is least; that part by asked().");
        // Bead 8 by ring 1 on: 8 9 8 8 9 8; back, into cell 0: 8 9 8 8 0 8.
        nextBy(Edge.PLAIN, 8, 2, 4);
        // Bead 0 by ring 1: 0, 1, 0, barred, 1, barred.
        nextBy(Edge.PLAIN, 0, 2, 2);
        // Bead 1 goes to cell 0 by ring 0 back, where a glass one shows 0.
        nextBy(Edge.PLAIN, 1, 1, 5);
        nextBy(Edge.PLAIN, 2, 0, 6);
        nextBy(Edge.PLAIN, 3, 0, 5);
        // Bead 9, borne to cell 10 or 8: both alike, so the first.
        nextBy(Edge.PLAIN, 9, 2, 4);
        // Ring 1 is barred whatever bead 8 is: all six alike by each move.
        nextBy(STUCK, 8, 0, 6);
        nextBy(ROOTED, 8, 0, 6);
        // Now bead 0 would show 5, or 0 if it is a glass one; but to make none is no move.
        nextBy(Edge.but(ROOTED, 0, "b5"), 0, 0, 6);
        // Bead 4 is a root or is none: by ring 0 it is barred or not, by ring 1 4, 5, 4, barred, 5, barred.
        nextBy(ROOTED, 4, 2, 2);
        // Tinted or glass: ring 1 back, made now, brings it into cell 0, where they show unlike.
        nextBy(Edge.PLAIN, 8, 3, 1, 2, 9);
        // One kind alone: the first move.
        nextBy(Edge.PLAIN, 3, 0, 1, 0, 0);
        nextBy(Edge.PLAIN, 8, 0, 1, 0, 8, 1, 8, 0, 8, 1, 7, 0, 7, 1, 7, 0, 7, 1, 6);
        // Worn, behind three turns, is told from the rest of 8 8 by any move; ring 1 tells more.
        Edge.gives("next behind three turns", Edge.toy(Edge.PLAIN).then(Edge.turns(0, 0, 0)).then(Edge.row(2)), x -> x.next(8, 2) * 10 + x.asked(), 23);

        Edge.sentence(28, "NONE: there is no KIND.");
        Edge.none("next by what no kind shows", Edge.toy(Edge.PLAIN).then(Edge.row(2, 2, 7)).then(x -> x.cell(9, 0)), x -> x.next(8, 2));
        Edge.none("next by a move that is barred", Edge.toy(STUCK).then(Edge.row(2, 2, 8)).then(x -> x.cell(9, 0)), x -> x.next(8, 2));

        Edge.sentence(28, "BAD; NOTHING; SIZE; UNLIKE.");
        fourGrounds(r -> x -> x.next(8, r), i -> x -> x.next(i, 2));
    }

    // ---- 6 by turns

    static void duelOf(String toy, int n, int want) {
        Edge.tells("duel(" + n + ") of " + toy, Edge.toy(toy), x -> x.duel(n), want);
    }

    static void duel() {
        Edge.sentence(29, "how much more CELLS 1, 2, 3, 5, 6, 7 SHOW together then than CELLS 8 to 13, the first one wanting that to be much, the second little, told by asked(): 1.");
        for (int c = 0; c < 14; c++) {
            duelOf(Edge.but(Edge.NOUGHTS, c, "b9"), 0, c == 0 || c == 4 ? 0 : c < 8 ? 9 : -9);
        }
        duelOf(Edge.PLAIN, 0, 24 - 23);
        duelOf("b0b9b9b9b0b9b9b9b0b0b0b0b0b0", 0, 54);
        duelOf("b0b0b0b0b0b0b0b0b9b9b9b9b9b9", 0, -54);

        Edge.sentence(29, "By turns two make a MOVE that is not BARRED, or none, n (0 .. 3) times each, the first one begins:");
        for (int n = 0; n <= 3; n++) {
            // All is barred: it stays as it is.
            duelOf(ROOTED, n, 24 - 23);
            duelOf("b0b9b9b9r0b9b9b9b0b0b0b0b0b0", n, 54);
            duelOf("b0b0b0b0r0b0b0b0b9b9b9b9b9b9", n, -54);
            duelOf(Edge.NOUGHTS, n, 0);
        }
        // Ring 0 on brings the root into cell 4, which bars all: nine in cell 1 stays.
        for (int n = 1; n <= 3; n++) duelOf(Edge.but(Edge.NOUGHTS, 0, "b9", 3, "r0"), n, 9);
        // The first one's best is none, else the second brings the nine into a crossing.
        duelOf(Edge.but(Edge.NOUGHTS, 2, "b9", 4, "s0"), 1, 9);
        // The second one undoes what the first one did.
        duelOf(Edge.but(Edge.NOUGHTS, 0, "b9"), 1, 0);
        duelOf(Edge.but(Edge.NOUGHTS, 9, "b9"), 1, -9);
        // A move by either is a turn: worn behind three turns, the second one makes it wear.
        Edge.tells("duel(1) behind three turns", Edge.toy(Edge.but(Edge.NOUGHTS, 2, "w9")).then(Edge.turns(2, 2, 2)), x -> x.duel(1), 8);
        Edge.tells("duel(1) behind two turns", Edge.toy(Edge.but(Edge.NOUGHTS, 2, "w9")).then(Edge.turns(2, 2)), x -> x.duel(1), 9);
        Edge.alike("it leaves all else", Edge.toy(Edge.PLAIN).then(Edge.turns(2)).then(x -> x.duel(3)).then(x -> x.bead(0, 0)), Edge.toy(Edge.PLAIN).then(Edge.turns(2)).then(x -> x.bead(0, 0)));

        Edge.sentence(29, "STATE: no BEADS; BAD. (In this order.)");
        Edge.Setup there = Edge.toy(Edge.PLAIN).then(Edge.turns(2)).then(x -> x.bead(5, 2));
        Edge.gives("duel(3)", there, x -> x.duel(3), 1);
        Edge.gives("duel(0)", there, x -> x.duel(0), 1);
        for (int n : new int[] {4, -1, Edge.HIGH, Edge.LOW}) {
            Edge.refuses("duel(" + n + ")", there, x -> x.duel(n), Edge.BAD);
            Edge.refuses("duel(" + n + ") without beads: both", Edge.text(0, Edge.PLAIN), x -> x.duel(n), Edge.STATE);
        }
        Edge.refuses("duel(0) without beads", Edge.text(0, Edge.PLAIN), x -> x.duel(0), Edge.STATE);
    }
}
