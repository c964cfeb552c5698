/** The edges that the document names for toys: faults, rings, kinds, what shows, what is barred; promises 10 to 14. */
public final class EdgesToysTest {
    static final String ALL_KINDS = "b1t2w3s4g5r6b7t8w9s0g1r2b3t4";

    public static void main(String[] args) {
        all();
        Edge.end("EdgesToysTest");
    }

    static void all() {
        faults();
        toyIsTold();
        toy();
        rings();
        kindsOfBeads();
        shows();
        borne();
        barred();
        bead();
        cell();
        markTinted();
        markWorn();
        markBarring();
        markRefused();
    }

    // ---- texts

    static void faultIn(String s, int want) {
        Edge.gives("fault of '" + s + "'", Edge.text(1, s), x -> x.fault(1), want);
        Edge.gives("toy of '" + s + "'", Edge.text(1, s), x -> x.toy(1), want == Edge.NONE ? 14 : Edge.STATE);
    }

    static void faults() {
        Edge.sentence(0, "blanks (32) ahead, between, behind as many as wanted, none within items");
        faultIn(Edge.PLAIN, Edge.NONE);
        faultIn(" " + Edge.PLAIN, Edge.NONE);
        faultIn(Edge.PLAIN + " ", Edge.NONE);
        faultIn(" ".repeat(32) + Edge.PLAIN, Edge.NONE);
        faultIn(Edge.PLAIN + " ".repeat(32), Edge.NONE);
        faultIn("b0" + " ".repeat(32) + Edge.PLAIN.substring(2), Edge.NONE);
        faultIn("  b0  b1  b2  b3  b4  b5  b6  b7  b8  b9  b0  b1  b2  b3    ", Edge.NONE);
        faultIn("b 0" + Edge.PLAIN.substring(2), 1);
        faultIn(Edge.PLAIN.substring(0, 26) + "b 3", 27);
        faultIn((char) 31 + Edge.PLAIN, 0);
        faultIn((char) 33 + Edge.PLAIN, 0);
        faultIn((char) 9 + Edge.PLAIN, 0);
        faultIn((char) 0 + Edge.PLAIN, 0);
        faultIn((char) 160 + Edge.PLAIN, 0);
        faultIn(Edge.PLAIN + (char) 10, 28);

        Edge.sentence(0, "each a letter, its COLOUR (0 .. 9; one figure)");
        for (int sign = 0; sign < 256; sign++) {
            boolean letter = "btwsgr".indexOf(sign) >= 0;
            boolean figure = sign >= '0' && sign <= '9';
            faultIn("b0" + (char) sign + "1" + Edge.PLAIN.substring(4), letter ? Edge.NONE : sign == ' ' ? 3 : 2);
            faultIn("b0b" + (char) sign + Edge.PLAIN.substring(4), figure ? Edge.NONE : 3);
        }
        faultIn("b01b1" + Edge.PLAIN.substring(4), 2);

        Edge.sentence(0, "A FAULT is the first place at which it can't go on so (a letter, a figure that is none such,");
        faultIn("b0x1y2", 2);
        faultIn("b0bx?", 3);
        faultIn("x", 0);
        faultIn("   x", 3);

        Edge.sentence(0, "a fifteenth BEAD: its place");
        faultIn(Edge.PLAIN + "b4", 28);
        faultIn(Edge.PLAIN + "   b4", 31);
        faultIn(Edge.PLAIN + "b", 28);
        faultIn(Edge.PLAIN + "x", 28);
        faultIn(Edge.PLAIN + "4", 28);
        faultIn(Edge.PLAIN + " ".repeat(31) + "b", 59);
        faultIn(Edge.PLAIN + Edge.PLAIN + "b0b1", 28);

        Edge.sentence(0, "the TEXT's size, if its end comes too early, or there are fewer than 14, or blanks alone");
        faultIn("", 0);
        faultIn(" ", 1);
        faultIn(" ".repeat(60), 60);
        faultIn("b", 1);
        faultIn("  b", 3);
        faultIn(Edge.PLAIN.substring(0, 27), 27);
        faultIn(Edge.PLAIN.substring(0, 26), 26);
        faultIn(Edge.PLAIN.substring(0, 26) + " ", 27);
        faultIn(" ".repeat(34) + Edge.PLAIN.substring(0, 26), 60);
        faultIn(" ".repeat(33) + Edge.PLAIN.substring(0, 27), 60);
        faultIn("b0", 2);

        Edge.sentence(10, "A FAULT of a TEXT; NONE: there is none. BAD; NOTHING.");
        Edge.Setup there = Edge.toy(Edge.PLAIN).then(Edge.text(3, "b0?")).then(x -> x.text(1, 0));
        Edge.gives("fault(3)", there, x -> x.fault(3), 2);
        Edge.none("fault(0)", there, x -> x.fault(0));
        Edge.alike("a fault told changes nothing", there, there.then(x -> x.fault(3)));
        Edge.refuses("fault(4)", there, x -> x.fault(4), Edge.BAD);
        Edge.refuses("fault(-1)", there, x -> x.fault(-1), Edge.BAD);
        Edge.finds("fault(2), missing", there, x -> x.fault(2), Edge.NOTHING);
        Edge.gives("fault(1), empty", there, x -> x.fault(1), 0);
        Edge.gives("the text itself is read, not the row", there.then(Edge.row(3, 1)), x -> x.fault(3), 2);
    }

    static void toyIsTold() {
        Edge.sentence(0, "14 BEADS (0, 1, .. 13 as they come, BEAD i in CELL i at first)");
        for (int k = 0; k < 14; k++) {
            int i = k;
            Edge.Setup there = Edge.toy("  " + ALL_KINDS.substring(0, 26) + "  " + ALL_KINDS.substring(26));
            Edge.tells("bead(" + i + ", 1)", there, x -> x.bead(i, 1), ALL_KINDS.charAt(2 * i + 1) - '0');
            Edge.tells("bead(" + i + ", 0)", there, x -> x.bead(i, 0), "btwsgr".indexOf(ALL_KINDS.charAt(2 * i)));
            Edge.tells("bead(" + i + ", 2)", there, x -> x.bead(i, 2), i);
            Edge.tells("cell(" + i + ", 0)", there, x -> x.cell(i, 0), i);
        }

        Edge.sentence(0, "A TOY (without BEADS at first) is a TEXT:");
        Edge.gives("count(0) of a new object", Edge.NEW, x -> x.count(0), 0);
        Edge.gives("count(0) with a text alone", Edge.text(0, Edge.PLAIN), x -> x.count(0), 0);
        Edge.gives("count(0) with a toy", Edge.toy(Edge.PLAIN), x -> x.count(0), 14);

        Edge.sentence(0, "CELLS 0 and 4 are CROSSINGS.");
        for (int k = 0; k < 14; k++) {
            int c = k;
            Edge.gives("a glass one in cell " + c, Edge.toy(Edge.but(Edge.NOUGHTS, c, "g5")), x -> x.mark(c, 4), c == 0 || c == 4 ? 1 : 0);
        }

        Edge.sentence(0, "No TURNS were made at first, no BEAD was BORNE.");
        Edge.gives("count(1)", Edge.toy(ALL_KINDS), x -> x.count(1), 0);
        Edge.gives("count(2)", Edge.toy(ALL_KINDS), x -> x.count(2), 0);
        for (int k = 0; k < 14; k++) {
            int i = k;
            Edge.tells("bead(" + i + ", 3)", Edge.toy(ALL_KINDS), x -> x.bead(i, 3), 0);
        }
    }

    static void toy() {
        Edge.Setup kept = Edge.toy(Edge.but(Edge.PLAIN, 1, "t1", 8, "t8")).then(Edge.row(2, 3)).then(x -> {
            x.turn(2);
            x.exchange(1, 9);
            x.keep(0);
            x.turn(0);
            x.keep(2);
        }).then(Edge.text(1, ALL_KINDS)).then(Edge.text(2, "b0b1b2"));

        Edge.sentence(11, "A TOY by a TEXT (anew: no TURNS, nothing BORNE, no DEEDS; kept TOYS go): 14.");
        Edge.gives("toy(1)", kept, x -> x.toy(1), 14);
        Edge.gives("toy(3)", Edge.text(3, Edge.PLAIN), x -> x.toy(3), 14);
        int[] counts = {14, 0, 0, 0, 1 + 2 + 3 + 4 + 6 + 7 + 8, 1 + 9 + 0 + 1 + 2 + 3 + 4, 14, 5, 4, 1, 3, 0};
        for (int k = 0; k < 12; k++) {
            int what = k;
            Edge.gives("count(" + what + ") behind toy(1)", kept.then(x -> x.toy(1)), x -> x.count(what), counts[what]);
        }
        for (int k = 0; k < 14; k++) {
            int i = k;
            Edge.tells("bead(" + i + ", 3) behind toy(1)", kept.then(x -> x.toy(1)), x -> x.bead(i, 3), 0);
        }
        for (int k = 0; k < 3; k++) {
            int place = k;
            Edge.finds("on(" + place + ") behind toy(1)", kept.then(x -> x.toy(1)), x -> x.on(place), Edge.NOTHING);
        }
        Edge.refuses("undo(1) behind toy(1)", kept.then(x -> x.toy(1)), x -> x.undo(1), Edge.BAD);
        Edge.alike("toy(0) once more is a new toy", Edge.toy(Edge.PLAIN), Edge.toy(Edge.PLAIN).then(Edge.turns(2, 2, 0)).then(x -> x.keep(1)).then(x -> x.toy(0)));
        Edge.alike("a text changed behind it changes no toy", Edge.toy(Edge.PLAIN).then(x -> x.text(0, 0)), Edge.text(0, Edge.PLAIN).then(x -> {
            x.toy(0);
            x.put(0, 0, 'x');
            x.text(0, 0);
        }));

        Edge.sentence(11, "BAD; NOTHING; STATE: a FAULT. (STATE behind NOTHING.)");
        for (Edge.Setup there : new Edge.Setup[] {kept, Edge.text(2, "b0b1b2")}) {
            Edge.refuses("toy(4)", there, x -> x.toy(4), Edge.BAD);
            Edge.refuses("toy(-1)", there, x -> x.toy(-1), Edge.BAD);
            Edge.finds("toy(3), missing", there, x -> x.toy(3), Edge.NOTHING);
            Edge.refuses("toy(2), a fault at its end", there, x -> x.toy(2), Edge.STATE);
        }
        Edge.refuses("toy(1), empty", kept.then(x -> x.text(1, 0)), x -> x.toy(1), Edge.STATE);
        Edge.refuses("toy(1), a fault at the last figure", kept.then(x -> x.put(1, 27, ':')), x -> x.toy(1), Edge.STATE);
        Edge.refuses("toy(1), a fifteenth bead", kept.then(Edge.text(1, Edge.PLAIN + "b0")), x -> x.toy(1), Edge.STATE);
    }

    // ---- rings

    /** Beads that tell all cells apart by number; where each lies behind one move. */
    static void lieBehind(int move, int... beads) {
        for (int k = 0; k < 14; k++) {
            int c = k;
            Edge.tells("cell(" + c + ", 0) behind move " + move, Edge.toy(Edge.PLAIN).then(Edge.turns(move)), x -> x.cell(c, 0), beads[c]);
            Edge.tells("bead(" + beads[c] + ", 2) behind move " + move, Edge.toy(Edge.PLAIN).then(Edge.turns(move)), x -> x.bead(beads[c], 2), c);
        }
    }

    static void rings() {
        Edge.sentence(0, "RING 0 goes by CELLS 0, 1, 2, 3, 4, 5, 6, 7 (behind 7 comes 0)");
        lieBehind(0, 7, 0, 1, 2, 3, 4, 5, 6, 8, 9, 10, 11, 12, 13);
        lieBehind(1, 1, 2, 3, 4, 5, 6, 7, 0, 8, 9, 10, 11, 12, 13);
        Edge.sentence(0, "RING 1 by CELLS 0, 8, 9, 10, 4, 11, 12, 13 (behind 13 comes 0)");
        lieBehind(2, 13, 1, 2, 3, 10, 5, 6, 7, 0, 8, 9, 4, 11, 12);
        lieBehind(3, 8, 1, 2, 3, 11, 5, 6, 7, 9, 10, 4, 12, 13, 0);
        Edge.sentence(0, "MOVES: 0 RING 0 on (each BEAD in it comes to the CELL behind its own, all at once), 1 RING 0 back, 2 RING 1 on, 3 RING 1 back.");
        for (int k = 0; k < 4; k++) {
            int move = k;
            Edge.gives("count(6) behind eight moves " + move, Edge.toy(Edge.PLAIN).then(Edge.turns(Edge.repeat(8, move))), x -> x.count(6), 14);
            Edge.gives("count(6) behind seven moves " + move, Edge.toy(Edge.PLAIN).then(Edge.turns(Edge.repeat(7, move))), x -> x.count(6), 6);
            Edge.gives("count(6) behind a move " + move + " and its opposite", Edge.toy(Edge.PLAIN).then(Edge.turns(move, move ^ 1)), x -> x.count(6), 14);
        }
    }

    // ---- kinds

    static void kindsOfBeads() {
        Edge.sentence(0, "0 BEAD (b, 98), 1 TINTED (t, 116; a BEAD), 2 WORN (w, 119; a BEAD), 3 STUCK (s, 115; a BEAD), 4 GLASS (g, 103; a TINTED one), 5 ROOT (r, 114; a STUCK one).");
        int[] letters = {98, 116, 119, 115, 103, 114};
        int[] tinted = {0, 1, 0, 0, 1, 0};
        int[] stuck = {0, 0, 0, 1, 0, 1};
        for (int k = 0; k < 6; k++) {
            int kind = k;
            Edge.Setup there = Edge.text(0, Edge.PLAIN).then(x -> {
                x.put(0, 4, letters[kind]);
                x.toy(0);
            });
            Edge.tells("bead(2, 0)", there, x -> x.bead(2, 0), kind);
            Edge.gives("count(7)", there, x -> x.count(7), tinted[kind]);
            Edge.gives("count(8)", there, x -> x.count(8), stuck[kind]);
        }
        // Which kinds each kind is of: rows are the bead's kind, columns the kind that is asked.
        String[] of = {"b1     ", "t11  0 ", "w1 1   ", "s1  1 0", "g11  1 ", "r1  1 1"};
        for (String line : of) {
            for (int k = 1; k < 6; k++) {
                int kind = k;
                Edge.Setup there = Edge.toy(Edge.but(Edge.PLAIN, 2, line.charAt(0) + "2"));
                if (line.charAt(1 + kind) == '1') {
                    Edge.gives("mark(2, " + kind + ") of " + line.charAt(0) + " is none of another kind", there, x -> x.mark(2, kind) >= 0 ? 1 : 0, 1);
                } else {
                    Edge.finds("mark(2, " + kind + ") of " + line.charAt(0), there, x -> x.mark(2, kind), Edge.UNLIKE);
                }
            }
        }
    }

    static Edge.Setup showing(String item) {
        return Edge.toy(Edge.but(Edge.PLAIN, 3, item));
    }

    static void shown(String item, int cell, int borne, int turns, int want) {
        Edge.gives("shows(3, " + cell + ", " + borne + ", " + turns + ") of " + item, showing(item), x -> x.shows(3, cell, borne, turns), want);
    }

    static void shows() {
        Edge.sentence(0, "A BEAD SHOWS its COLOUR;");
        for (String item : new String[] {"b0", "b9", "s0", "s9", "r0", "r9"}) {
            for (int cell : new int[] {0, 3, 4, 13}) {
                shown(item, cell, 0, 0, item.charAt(1) - '0');
                shown(item, cell, 99, 99, item.charAt(1) - '0');
            }
        }

        Edge.sentence(0, "a TINTED one that is 1 more for each MOVE of RING 1 that BORE it (that was in it as it was made; less whole tens)");
        for (int cell : new int[] {0, 3, 4, 13}) {
            shown("t9", cell, 0, 99, 9);
            shown("t9", cell, 1, 0, 0);
            shown("t0", cell, 9, 0, 9);
            shown("t0", cell, 10, 0, 0);
            shown("t9", cell, 10, 0, 9);
            shown("t9", cell, 11, 0, 0);
            shown("t1", cell, 99, 0, 0);
            shown("t0", cell, 99, 0, 9);
        }

        Edge.sentence(0, "a WORN one 1 less for each four TURNS that were made (cut; 0 at least)");
        for (int cell : new int[] {0, 3, 4, 13}) {
            shown("w9", cell, 99, 0, 9);
            shown("w9", cell, 0, 3, 9);
            shown("w9", cell, 0, 4, 8);
            shown("w9", cell, 0, 7, 8);
            shown("w9", cell, 0, 8, 7);
            shown("w9", cell, 0, 35, 1);
            shown("w9", cell, 0, 36, 0);
            shown("w9", cell, 0, 39, 0);
            shown("w9", cell, 0, 40, 0);
            shown("w9", cell, 0, 99, 0);
            shown("w1", cell, 0, 3, 1);
            shown("w1", cell, 0, 4, 0);
            shown("w0", cell, 0, 0, 0);
            shown("w0", cell, 0, 4, 0);
        }
        Edge.gives("nine, behind 35 turns", Edge.toy(Edge.but(Edge.PLAIN, 13, "w9")).then(Edge.turns(Edge.repeat(35, 0))), x -> x.cell(13, 1) * 100 + x.asked(), 101);
        Edge.gives("nine, behind 36 turns", Edge.toy(Edge.but(Edge.PLAIN, 13, "w9")).then(Edge.turns(Edge.repeat(36, 0))), x -> x.cell(13, 1) * 100 + x.asked(), 100);
        Edge.gives("nine, behind 40 turns", Edge.toy(Edge.but(Edge.PLAIN, 13, "w9")).then(Edge.turns(Edge.repeat(40, 0))), x -> x.cell(13, 1) * 100 + x.asked(), 100);
        Edge.gives("exchanges are no turns", Edge.toy(Edge.but(Edge.PLAIN, 13, "w9")).then(Edge.exchanges(4)), x -> x.cell(13, 1) * 100 + x.asked(), 109);

        Edge.sentence(0, "a STUCK one as a BEAD; a GLASS one as a TINTED one, but 0 in a CROSSING; a ROOT as a BEAD.");
        for (int cell = 0; cell < 14; cell++) {
            boolean crossing = cell == 0 || cell == 4;
            shown("g9", cell, 0, 99, crossing ? 0 : 9);
            shown("g9", cell, 1, 0, 0);
            shown("g9", cell, 2, 0, crossing ? 0 : 1);
            shown("g1", cell, 99, 0, 0);
            shown("g2", cell, 99, 0, crossing ? 0 : 1);
            shown("t5", cell, 1, 4, 6);
            shown("s5", cell, 1, 4, 5);
            shown("r5", cell, 1, 4, 5);
            shown("b5", cell, 1, 4, 5);
            shown("w5", cell, 1, 4, 4);
        }
    }

    static void borne() {
        Edge.sentence(0, "for each MOVE of RING 1 that BORE it (that was in it as it was made");
        for (int k = 0; k < 14; k++) {
            int i = k;
            boolean inRing1 = i == 0 || i == 4 || i >= 8;
            for (int m = 0; m < 4; m++) {
                int move = m;
                int times = inRing1 && move >= 2 ? 1 : 0;
                Edge.tells("bead(" + i + ", 3) behind move " + move, Edge.toy(Edge.PLAIN).then(Edge.turns(move)), x -> x.bead(i, 3), times);
            }
        }
        Edge.tells("on and back bear twice", Edge.toy(Edge.PLAIN).then(Edge.turns(2, 3)), x -> x.bead(0, 3), 2);
        Edge.tells("borne 40 times", Edge.toy(Edge.PLAIN).then(Edge.turns(Edge.repeat(40, 3))), x -> x.bead(8, 3), 40);
        Edge.tells("a tinted one borne 40 times", Edge.toy(Edge.but(Edge.PLAIN, 8, "t8")).then(Edge.turns(Edge.repeat(40, 3))), x -> x.bead(8, 4), 8);
        Edge.tells("a tinted one borne 39 times", Edge.toy(Edge.but(Edge.PLAIN, 8, "t8")).then(Edge.turns(Edge.repeat(39, 2))), x -> x.bead(8, 4), 7);
    }

    // ---- what is barred

    static void barredBy(String item, int cell, int bits) {
        Edge.Setup there = Edge.toy(Edge.but(Edge.PLAIN, cell, item));
        Edge.gives("count(3) with " + item + " in cell " + cell, there, x -> x.count(3), bits);
        for (int m = 0; m < 4; m++) {
            int move = m;
            if ((bits >> move / 2 & 1) == 1) {
                Edge.refuses("turn(" + move + ") with " + item + " in cell " + cell, there, x -> x.turn(move), Edge.STATE);
            } else {
                Edge.gives("turn(" + move + ") with " + item + " in cell " + cell + " is made", there, x -> x.turn(move) >= 0 ? 1 : 0, 1);
            }
        }
    }

    static void barred() {
        Edge.sentence(0, "A RING that is BARRED can't be moved: RING 1, if a STUCK one (ROOT, too) lies in a CROSSING; RING 0, if a ROOT lies in CELL 4.");
        for (int cell = 0; cell < 14; cell++) {
            boolean crossing = cell == 0 || cell == 4;
            barredBy("s5", cell, crossing ? 2 : 0);
            barredBy("r5", cell, cell == 4 ? 3 : crossing ? 2 : 0);
            barredBy("g5", cell, 0);
            barredBy("t5", cell, 0);
            barredBy("w5", cell, 0);
        }
        Edge.gives("count(3) with a root in cell 0, a stuck one in cell 4", Edge.toy(Edge.but(Edge.PLAIN, 0, "r0", 4, "s0")), x -> x.count(3), 2);
        Edge.gives("count(3) with roots in either", Edge.toy(Edge.but(Edge.PLAIN, 0, "r0", 4, "r0")), x -> x.count(3), 3);
        Edge.gives("count(3) as a stuck one comes to a crossing", Edge.toy(Edge.but(Edge.PLAIN, 3, "s3")).then(Edge.turns(0)), x -> x.count(3), 2);
        Edge.gives("count(3) as it has gone on", Edge.toy(Edge.but(Edge.PLAIN, 3, "s3")).then(Edge.turns(0, 0)), x -> x.count(3), 0);
        Edge.gives("count(3) as a root comes to cell 4", Edge.toy(Edge.but(Edge.PLAIN, 10, "r3")).then(Edge.turns(2)), x -> x.count(3), 3);
        Edge.gives("count(3) as a root is taken out by hand", Edge.toy(Edge.but(Edge.PLAIN, 4, "r3")).then(x -> x.exchange(5, 4)), x -> x.count(3), 0);
    }

    // ---- bead, cell

    static final Edge.Setup PLAYED = Edge.toy(ALL_KINDS).then(x -> {
        x.exchange(0, 4);
        x.turn(0);
        x.turn(2);
    });

    static void bead() {
        Edge.sentence(12, "Of a BEAD: 0 the KIND, 1 the COLOUR as told, 2 the CELL in which it lies, 3 how often it was BORNE, 4 what it SHOWS, told by asked(): 1.");
        // Bead 3 is no stuck one here: it comes to cell 4 by the first turn and would bar the second one.
        int[][] want = {{0, 1, 5, 0, 1}, {1, 2, 2, 0, 2}, {2, 3, 3, 0, 3}, {0, 4, 11, 1, 4}, {4, 5, 1, 0, 5}, {5, 6, 6, 0, 6},
            {0, 7, 7, 0, 7}, {1, 8, 8, 1, 9}, {2, 9, 9, 1, 9}, {3, 0, 10, 1, 0}, {4, 1, 4, 1, 0}, {5, 2, 12, 1, 2}, {0, 3, 13, 1, 3}, {1, 4, 0, 1, 5}};
        Edge.Setup there = Edge.toy(Edge.but(ALL_KINDS, 3, "b4")).then(x -> {
            x.exchange(0, 4);
            x.turn(0);
            x.turn(2);
        });
        for (int k = 0; k < 14; k++) {
            int i = k;
            for (int w = 0; w < 5; w++) {
                int what = w;
                Edge.tells("bead(" + i + ", " + what + ")", there, x -> x.bead(i, what), want[i][what]);
                Edge.alike("bead(" + i + ", " + what + ") changes nothing else", there.then(x -> x.bead(i, what)).then(x -> x.bead(0, 0)), there.then(x -> x.bead(0, 0)));
            }
        }

        Edge.sentence(12, "BAD (also without BEADS).");
        Edge.refuses("bead(14, 0)", PLAYED, x -> x.bead(14, 0), Edge.BAD);
        Edge.refuses("bead(-1, 0)", PLAYED, x -> x.bead(-1, 0), Edge.BAD);
        Edge.refuses("bead(HIGH, 0)", PLAYED, x -> x.bead(Edge.HIGH, 0), Edge.BAD);
        Edge.refuses("bead(LOW, 0)", PLAYED, x -> x.bead(Edge.LOW, 0), Edge.BAD);
        Edge.refuses("bead(0, 5)", PLAYED, x -> x.bead(0, 5), Edge.BAD);
        Edge.refuses("bead(0, -1)", PLAYED, x -> x.bead(0, -1), Edge.BAD);
        Edge.refuses("bead(14, 5)", PLAYED, x -> x.bead(14, 5), Edge.BAD);
        for (int k = 0; k < 5; k++) {
            int what = k;
            Edge.refuses("bead(0, " + what + ") without beads", Edge.NEW, x -> x.bead(0, what), Edge.BAD);
            Edge.refuses("bead(13, " + what + ") without beads", Edge.text(0, Edge.PLAIN), x -> x.bead(13, what), Edge.BAD);
        }
    }

    static void cell() {
        Edge.sentence(13, "Of a CELL: 0 the BEAD in it, 1 what it SHOWS, told by asked(): 1.");
        Edge.Setup glass = Edge.toy(Edge.but(Edge.PLAIN, 10, "g8", 13, "t9")).then(Edge.turns(2));
        Edge.tells("cell(4, 0)", glass, x -> x.cell(4, 0), 10);
        Edge.tells("cell(4, 1)", glass, x -> x.cell(4, 1), 0);
        Edge.tells("cell(0, 0)", glass, x -> x.cell(0, 0), 13);
        Edge.tells("cell(0, 1)", glass, x -> x.cell(0, 1), 0);
        Edge.tells("cell(13, 0)", glass, x -> x.cell(13, 0), 12);
        Edge.tells("cell(13, 1)", glass, x -> x.cell(13, 1), 2);
        Edge.tells("cell(11, 1) behind a move more", glass.then(Edge.turns(2)), x -> x.cell(11, 1), 0);
        Edge.tells("cell(12, 1) behind two moves more", glass.then(Edge.turns(2, 2)), x -> x.cell(12, 1), 1);

        Edge.sentence(13, "BAD (also without BEADS).");
        Edge.refuses("cell(14, 0)", PLAYED, x -> x.cell(14, 0), Edge.BAD);
        Edge.refuses("cell(-1, 0)", PLAYED, x -> x.cell(-1, 0), Edge.BAD);
        Edge.refuses("cell(HIGH, 1)", PLAYED, x -> x.cell(Edge.HIGH, 1), Edge.BAD);
        Edge.refuses("cell(LOW, 1)", PLAYED, x -> x.cell(Edge.LOW, 1), Edge.BAD);
        Edge.refuses("cell(0, 2)", PLAYED, x -> x.cell(0, 2), Edge.BAD);
        Edge.refuses("cell(0, -1)", PLAYED, x -> x.cell(0, -1), Edge.BAD);
        for (int k = 0; k < 2; k++) {
            int what = k;
            Edge.refuses("cell(0, " + what + ") without beads", Edge.NEW, x -> x.cell(0, what), Edge.BAD);
            Edge.refuses("cell(13, " + what + ") without beads", Edge.text(0, Edge.PLAIN), x -> x.cell(13, what), Edge.BAD);
        }
    }

    // ---- mark

    static void markTinted() {
        Edge.sentence(14, "a TINTED one (GLASS, too) how often it is to be BORNE yet till it would SHOW its COLOUR as told, but for a CROSSING (0 .. 9)");
        int[] borne = {0, 1, 2, 9, 10, 11, 19, 20, 40};
        int[] yet = {0, 9, 8, 1, 0, 9, 1, 0, 0};
        for (String item : new String[] {"t0", "t9", "g0", "g9"}) {
            for (int k = 0; k < borne.length; k++) {
                int times = borne[k];
                Edge.gives("mark(8, 1) of " + item + " borne " + times + " times", Edge.toy(Edge.but(Edge.PLAIN, 8, item)).then(Edge.turns(Edge.repeat(times, 2))), x -> x.mark(8, 1), yet[k]);
            }
        }
        Edge.gives("mark(4, 1) of glass in a crossing", Edge.toy(Edge.but(Edge.PLAIN, 4, "g7")), x -> x.mark(4, 1), 0);
        Edge.gives("mark(10, 1) of glass come to a crossing", Edge.toy(Edge.but(Edge.PLAIN, 10, "g9")).then(Edge.turns(2)), x -> x.mark(10, 1), 9);
    }

    static void markWorn() {
        Edge.sentence(14, "a WORN one in how many TURNS more it SHOWS 1 less (0: it SHOWS 0)");
        for (int turns = 0; turns <= 40; turns++) {
            int n = turns;
            Edge.gives("mark(13, 2) of nine behind " + n + " turns", Edge.toy(Edge.but(Edge.PLAIN, 13, "w9")).then(Edge.turns(Edge.repeat(n, 0))), x -> x.mark(13, 2), n >= 36 ? 0 : 4 - n % 4);
            Edge.gives("mark(13, 2) of one behind " + n + " turns", Edge.toy(Edge.but(Edge.PLAIN, 13, "w1")).then(Edge.turns(Edge.repeat(n, 0))), x -> x.mark(13, 2), n >= 4 ? 0 : 4 - n);
        }
        Edge.gives("mark(13, 2) of nought", Edge.toy(Edge.but(Edge.PLAIN, 13, "w0")), x -> x.mark(13, 2), 0);
    }

    static void markBarring() {
        Edge.sentence(14, "a STUCK one (ROOT, too) whether it BARS RING 1 (1, 0), a GLASS one how many GLASS ones lie in CROSSINGS, a ROOT whether it BARS RING 0 (1, 0).");
        for (int k = 0; k < 14; k++) {
            int c = k;
            boolean crossing = c == 0 || c == 4;
            Edge.gives("mark(" + c + ", 3) of a stuck one", Edge.toy(Edge.but(Edge.PLAIN, c, "s5")), x -> x.mark(c, 3), crossing ? 1 : 0);
            Edge.gives("mark(" + c + ", 3) of a root", Edge.toy(Edge.but(Edge.PLAIN, c, "r5")), x -> x.mark(c, 3), crossing ? 1 : 0);
            Edge.gives("mark(" + c + ", 5) of a root", Edge.toy(Edge.but(Edge.PLAIN, c, "r5")), x -> x.mark(c, 5), c == 4 ? 1 : 0);
            Edge.gives("mark(" + c + ", 4) of a glass one alone", Edge.toy(Edge.but(Edge.PLAIN, c, "g5")), x -> x.mark(c, 4), crossing ? 1 : 0);
        }
        Edge.gives("mark(3, 3) of one that bars nothing while another one does", Edge.toy(Edge.but(Edge.PLAIN, 3, "s3", 4, "s4")), x -> x.mark(3, 3), 0);
        Edge.gives("mark(0, 5) of a root in cell 0 while one is in cell 4", Edge.toy(Edge.but(Edge.PLAIN, 0, "r3", 4, "r4")), x -> x.mark(0, 5), 0);
        Edge.gives("mark(2, 4) with glass in both crossings", Edge.toy(Edge.but(Edge.PLAIN, 0, "g0", 2, "g2", 4, "g4")), x -> x.mark(2, 4), 2);
        Edge.gives("mark(2, 4) with tinted ones in both crossings", Edge.toy(Edge.but(Edge.PLAIN, 0, "t0", 2, "g2", 4, "t4")), x -> x.mark(2, 4), 0);
        Edge.gives("mark(2, 3) behind turns to a crossing", Edge.toy(Edge.but(Edge.PLAIN, 2, "s0")).then(Edge.turns(0, 0)), x -> x.mark(2, 3), 1);
        Edge.gives("mark(2, 5) behind turns to cell 4", Edge.toy(Edge.but(Edge.PLAIN, 2, "r0")).then(Edge.turns(0, 0)), x -> x.mark(2, 5), 1);
        Edge.gives("mark(2, 5) behind turns to cell 0", Edge.toy(Edge.but(Edge.PLAIN, 2, "r0")).then(Edge.turns(1, 1)), x -> x.mark(2, 5), 0);
    }

    static void markRefused() {
        Edge.sentence(14, "BAD: also KIND 0; UNLIKE.");
        Edge.Setup there = Edge.toy(ALL_KINDS).then(x -> x.exchange(1, 2));
        for (int k = 0; k < 14; k++) {
            int i = k;
            Edge.refuses("mark(" + i + ", 0)", there, x -> x.mark(i, 0), Edge.BAD);
        }
        Edge.refuses("mark(0, -1)", there, x -> x.mark(0, -1), Edge.BAD);
        Edge.refuses("mark(0, 6)", there, x -> x.mark(0, 6), Edge.BAD);
        Edge.refuses("mark(5, HIGH)", there, x -> x.mark(5, Edge.HIGH), Edge.BAD);
        Edge.refuses("mark(5, LOW)", there, x -> x.mark(5, Edge.LOW), Edge.BAD);
        Edge.refuses("mark(14, 1)", there, x -> x.mark(14, 1), Edge.BAD);
        Edge.refuses("mark(-1, 1)", there, x -> x.mark(-1, 1), Edge.BAD);
        Edge.refuses("mark(0, 1) without beads", Edge.text(0, ALL_KINDS), x -> x.mark(0, 1), Edge.BAD);
        Edge.finds("mark(0, 1): unlike", there, x -> x.mark(0, 1), Edge.UNLIKE);
        Edge.finds("mark(1, 4): a tinted one is no glass", there, x -> x.mark(1, 4), Edge.UNLIKE);
        Edge.finds("mark(3, 5): a stuck one is no root", there, x -> x.mark(3, 5), Edge.UNLIKE);
        Edge.finds("mark(5, 1): a root is not tinted", there, x -> x.mark(5, 1), Edge.UNLIKE);
        Edge.alike("a mark told changes nothing", there, there.then(x -> x.mark(5, 3)));
    }
}
