import java.math.BigInteger;

/** The edges that the document names for deeds: promises 15 to 19 and 32. */
public final class EdgesDeedsTest {
    static final String ROOTED = Edge.but(Edge.PLAIN, 4, "r4");
    static final String STUCK = Edge.but(Edge.PLAIN, 0, "s0");

    public static void main(String[] args) {
        all();
        Edge.end("EdgesDeedsTest");
    }

    static void all() {
        turn();
        turnRefused();
        exchange();
        fortyDeeds();
        undo();
        keep();
        on();
        lots();
        lotsThatMove();
        lotsThatExchange();
        lotsBarred();
        lotsRefused();
    }

    static void turn() {
        Edge.sentence(15, "A MOVE (0 .. 3): what CELL 0 SHOWS then.");
        int[] then = {7, 1, 3, 8};
        for (int m = 0; m < 4; m++) {
            int move = m;
            Edge.gives("turn(" + move + ")", Edge.toy(Edge.PLAIN), x -> x.turn(move), then[move]);
            Edge.gives("count(1) behind turn(" + move + ")", Edge.toy(Edge.PLAIN).then(Edge.turns(move)), x -> x.count(1), 1);
            Edge.gives("count(2) behind turn(" + move + ")", Edge.toy(Edge.PLAIN).then(Edge.turns(move)), x -> x.count(2), 1);
            Edge.gives("count(1) behind 40 turns", Edge.toy(Edge.PLAIN).then(Edge.turns(Edge.repeat(40, move))), x -> x.count(1), 40);
        }
        Edge.gives("turn(2) brings a tinted one", Edge.toy(Edge.but(Edge.PLAIN, 13, "t9")), x -> x.turn(2), 0);
        Edge.gives("turn(2) brings a glass one", Edge.toy(Edge.but(Edge.PLAIN, 13, "g5")), x -> x.turn(2), 0);
        Edge.gives("turn(0) brings a worn one", Edge.toy(Edge.but(Edge.PLAIN, 4, "w9")).then(Edge.turns(0, 0, 0)), x -> x.turn(0), 8);
        Edge.gives("turn(0) tells nothing by asked()", Edge.toy(Edge.PLAIN).then(Edge.turns(0)), x -> x.asked(), 0);
    }

    static void turnRefused() {
        Edge.sentence(15, "BAD; STATE: no BEADS (ahead of BAD), or the RING is BARRED; FULL: 40 DEEDS. (FULL last.)");
        Edge.Setup played = Edge.toy(Edge.PLAIN).then(Edge.turns(2, 0)).then(x -> x.keep(1));
        Edge.refuses("turn(4)", played, x -> x.turn(4), Edge.BAD);
        Edge.refuses("turn(-1)", played, x -> x.turn(-1), Edge.BAD);
        Edge.refuses("turn(HIGH)", played, x -> x.turn(Edge.HIGH), Edge.BAD);
        Edge.refuses("turn(LOW)", played, x -> x.turn(Edge.LOW), Edge.BAD);
        for (int move : new int[] {0, 3, 4, -1, Edge.HIGH}) {
            Edge.refuses("turn(" + move + ") without beads", Edge.text(0, Edge.PLAIN), x -> x.turn(move), Edge.STATE);
        }
        for (int m = 0; m < 4; m++) {
            int move = m;
            Edge.refuses("turn(" + move + "), barred", Edge.toy(ROOTED), x -> x.turn(move), Edge.STATE);
            Edge.refuses("turn(" + move + ") behind 40 turns", Edge.toy(Edge.PLAIN).then(Edge.turns(Edge.repeat(40, 0))), x -> x.turn(move), Edge.FULL);
            Edge.refuses("turn(" + move + ") behind 40 exchanges: barred, too", Edge.toy(ROOTED).then(Edge.exchanges(40)), x -> x.turn(move), Edge.STATE);
        }
        Edge.refuses("turn(4), barred", Edge.toy(ROOTED), x -> x.turn(4), Edge.BAD);
        Edge.refuses("turn(4) behind 40 exchanges", Edge.toy(Edge.PLAIN).then(Edge.exchanges(40)), x -> x.turn(4), Edge.BAD);
        Edge.refuses("turn(-1) behind 40 exchanges", Edge.toy(Edge.PLAIN).then(Edge.exchanges(40)), x -> x.turn(-1), Edge.BAD);
        Edge.refuses("turn(2) behind 40 exchanges: barred by a stuck one, too", Edge.toy(STUCK).then(Edge.exchanges(40)), x -> x.turn(2), Edge.STATE);
        Edge.refuses("turn(0) behind 40 exchanges: the other ring is barred", Edge.toy(STUCK).then(Edge.exchanges(40)), x -> x.turn(0), Edge.FULL);
    }

    static void exchange() {
        Edge.sentence(16, "BEADS of two CELLS are EXCHANGED (not BORNE by it): the BEAD in the first one then.");
        Edge.Setup there = Edge.toy(Edge.but(Edge.PLAIN, 8, "t8")).then(Edge.turns(2));
        Edge.gives("exchange(0, 13)", Edge.toy(Edge.PLAIN), x -> x.exchange(0, 13), 13);
        Edge.gives("exchange(13, 0)", Edge.toy(Edge.PLAIN), x -> x.exchange(13, 0), 0);
        Edge.gives("exchange(0, 4), the crossings", Edge.toy(Edge.PLAIN), x -> x.exchange(0, 4), 4);
        Edge.gives("exchange(9, 1) behind a turn", there, x -> x.exchange(9, 1), 1);
        Edge.tells("cell(1, 0) behind it", there.then(x -> x.exchange(9, 1)), x -> x.cell(1, 0), 8);
        Edge.tells("cell(9, 0) behind it", there.then(x -> x.exchange(9, 1)), x -> x.cell(9, 0), 1);
        Edge.tells("bead(8, 2) behind it", there.then(x -> x.exchange(9, 1)), x -> x.bead(8, 2), 1);
        Edge.tells("bead(8, 3) behind it", there.then(x -> x.exchange(9, 1)), x -> x.bead(8, 3), 1);
        Edge.tells("bead(1, 3) behind it", there.then(x -> x.exchange(9, 1)), x -> x.bead(1, 3), 0);
        Edge.gives("count(1) behind it", there.then(x -> x.exchange(9, 1)), x -> x.count(1), 1);
        Edge.gives("count(2) behind it", there.then(x -> x.exchange(9, 1)), x -> x.count(2), 2);
        Edge.gives("exchange(4, 5) takes out a root: what is barred bars no exchange", Edge.toy(ROOTED), x -> x.exchange(4, 5), 5);

        Edge.sentence(16, "STATE: no BEADS; BAD: also alike CELLS; FULL. (In this order.)");
        Edge.refuses("exchange(0, 1) without beads", Edge.text(0, Edge.PLAIN), x -> x.exchange(0, 1), Edge.STATE);
        Edge.refuses("exchange(14, 1) without beads", Edge.NEW, x -> x.exchange(14, 1), Edge.STATE);
        Edge.refuses("exchange(3, 3) without beads", Edge.NEW, x -> x.exchange(3, 3), Edge.STATE);
        for (int many : new int[] {0, 40}) {
            Edge.Setup full = Edge.toy(Edge.PLAIN).then(Edge.exchanges(many));
            String behind = " behind " + many + " deeds";
            for (int k = 0; k < 14; k++) {
                int c = k;
                Edge.refuses("exchange(" + c + ", " + c + ")" + behind, full, x -> x.exchange(c, c), Edge.BAD);
            }
            Edge.refuses("exchange(14, 0)" + behind, full, x -> x.exchange(14, 0), Edge.BAD);
            Edge.refuses("exchange(0, 14)" + behind, full, x -> x.exchange(0, 14), Edge.BAD);
            Edge.refuses("exchange(-1, 0)" + behind, full, x -> x.exchange(-1, 0), Edge.BAD);
            Edge.refuses("exchange(0, -1)" + behind, full, x -> x.exchange(0, -1), Edge.BAD);
            Edge.refuses("exchange(14, 14)" + behind, full, x -> x.exchange(14, 14), Edge.BAD);
            Edge.refuses("exchange(HIGH, LOW)" + behind, full, x -> x.exchange(Edge.HIGH, Edge.LOW), Edge.BAD);
        }
        Edge.refuses("exchange(0, 1) behind 40 deeds", Edge.toy(Edge.PLAIN).then(Edge.exchanges(40)), x -> x.exchange(0, 1), Edge.FULL);
        Edge.refuses("exchange(0, 1) behind 40 turns", Edge.toy(Edge.PLAIN).then(Edge.turns(Edge.repeat(40, 1))), x -> x.exchange(0, 1), Edge.FULL);
    }

    static void fortyDeeds() {
        Edge.sentence(0, "What is done: a MOVE (a TURN more), BEADS of two CELLS are EXCHANGED by hand.");
        Edge.gives("turns, deeds behind a move", Edge.toy(Edge.PLAIN).then(Edge.turns(0)), x -> x.count(1) * 100 + x.count(2), 101);
        Edge.gives("turns, deeds behind an exchange", Edge.toy(Edge.PLAIN).then(Edge.exchanges(1)), x -> x.count(1) * 100 + x.count(2), 1);
        Edge.gives("turns, deeds behind three questions aside", Edge.toy(Edge.PLAIN).then(Edge.row(0, 2)).then(x -> {
            x.run(0, 1);
            x.duel(2);
            x.mid(0, 0, 6);
        }), x -> x.count(1) * 100 + x.count(2), 0);

        Edge.sentence(0, "These are DEEDS 0, 1, .. (40 at most).");
        Edge.Setup last = Edge.toy(Edge.PLAIN).then(Edge.exchanges(38)).then(Edge.turns(0));
        Edge.gives("count(2) behind 39", last, x -> x.count(2), 39);
        Edge.gives("the 40th, turn(1)", last, x -> x.turn(1), 0);
        Edge.gives("the 40th, exchange(0, 13)", last, x -> x.exchange(0, 13), 13);
        Edge.gives("the 40th, lots(1, 1): ring 1 back", last, x -> x.lots(1, 1), 8);
        Edge.gives("count(2) behind the 40th", last.then(Edge.turns(1)), x -> x.count(2), 40);
        for (Edge.Setup full : new Edge.Setup[] {last.then(Edge.turns(1)), last.then(x -> x.exchange(0, 13)), last.then(x -> x.lots(1, 1))}) {
            Edge.refuses("the 41st, turn(1)", full, x -> x.turn(1), Edge.FULL);
            Edge.refuses("the 41st, exchange(0, 13)", full, x -> x.exchange(0, 13), Edge.FULL);
            Edge.refuses("the 41st, lots(1, 1)", full, x -> x.lots(1, 1), Edge.FULL);
            Edge.gives("one undone makes room for one", full.then(x -> x.undo(39)), x -> x.turn(0), 6);
            Edge.refuses("but not for two", full.then(x -> x.undo(39)).then(Edge.turns(0)), x -> x.turn(0), Edge.FULL);
        }
    }

    static void undo() {
        Edge.Setup one = Edge.toy(Edge.but(Edge.PLAIN, 8, "t8", 3, "w9")).then(Edge.turns(2));
        Edge.Setup two = one.then(x -> x.exchange(8, 3));
        Edge.Setup three = two.then(Edge.turns(0));
        Edge.Setup four = three.then(Edge.turns(3));

        Edge.sentence(17, "DEEDS from number n on are undone: how many.");
        Edge.gives("undo(3) of four", four, x -> x.undo(3), 1);
        Edge.gives("undo(1) of four", four, x -> x.undo(1), 3);
        Edge.gives("undo(0) of four", four, x -> x.undo(0), 4);
        Edge.gives("undo(4) of four", four, x -> x.undo(4), 0);
        Edge.alike("undo(4) of four changes nothing", four, four.then(x -> x.undo(4)));
        Edge.alike("undo(3) of four leaves three", three, four.then(x -> x.undo(3)));
        Edge.alike("undo(2) of four leaves two", two, four.then(x -> x.undo(2)));
        Edge.alike("undo(1) of four leaves one", one, four.then(x -> x.undo(1)));
        Edge.alike("undo(0) of four leaves a new toy", Edge.toy(Edge.but(Edge.PLAIN, 8, "t8", 3, "w9")), four.then(x -> x.undo(0)));
        Edge.gives("undo(0) of 40", Edge.toy(Edge.PLAIN).then(Edge.exchanges(40)), x -> x.undo(0), 40);
        Edge.gives("undo(39) of 40", Edge.toy(Edge.PLAIN).then(Edge.exchanges(40)), x -> x.undo(39), 1);
        Edge.alike("40 turns undone", Edge.toy(Edge.PLAIN), Edge.toy(Edge.PLAIN).then(Edge.turns(Edge.repeat(20, 2, 1))).then(x -> x.undo(0)));
        Edge.gives("undo(0) of none", Edge.toy(Edge.PLAIN), x -> x.undo(0), 0);
        Edge.gives("undo(0) without beads", Edge.NEW, x -> x.undo(0), 0);
        Edge.alike("a turn that bars itself is undone", Edge.toy(Edge.but(Edge.PLAIN, 10, "r3")), Edge.toy(Edge.but(Edge.PLAIN, 10, "r3")).then(Edge.turns(2)).then(x -> x.undo(0)));

        Edge.sentence(17, "BAD.");
        Edge.refuses("undo(-1)", four, x -> x.undo(-1), Edge.BAD);
        Edge.refuses("undo(LOW)", four, x -> x.undo(Edge.LOW), Edge.BAD);
        Edge.refuses("undo(5) of four", four, x -> x.undo(5), Edge.BAD);
        Edge.refuses("undo(HIGH) of four", four, x -> x.undo(Edge.HIGH), Edge.BAD);
        Edge.refuses("undo(41) of 40", Edge.toy(Edge.PLAIN).then(Edge.exchanges(40)), x -> x.undo(41), Edge.BAD);
        Edge.refuses("undo(1) of none", Edge.toy(Edge.PLAIN), x -> x.undo(1), Edge.BAD);
        Edge.refuses("undo(1) without beads", Edge.NEW, x -> x.undo(1), Edge.BAD);
        Edge.refuses("undo(-1) without beads", Edge.NEW, x -> x.undo(-1), Edge.BAD);
    }

    static void keep() {
        Edge.Setup there = Edge.toy(Edge.but(Edge.PLAIN, 8, "t8")).then(Edge.turns(2, 0));
        Edge.sentence(18, "The TOY (as it is, DEEDS) is kept in a place (0 .. 2): how many DEEDS.");
        for (int p = 0; p < 3; p++) {
            int k = p;
            Edge.gives("keep(" + k + ") of a new toy", Edge.toy(Edge.PLAIN), x -> x.keep(k), 0);
            Edge.gives("keep(" + k + ")", there, x -> x.keep(k), 2);
            Edge.gives("keep(" + k + ") again", there.then(x -> x.keep(k)).then(Edge.turns(1)), x -> x.keep(k), 3);
            Edge.gives("count(11) behind keep(" + k + ") twice", there.then(x -> x.keep(k)).then(x -> x.keep(k)), x -> x.count(11), 1);
            Edge.gives("keep(" + k + ") of 40 deeds", Edge.toy(Edge.PLAIN).then(Edge.exchanges(40)), x -> x.keep(k), 40);
            Edge.alike("40 deeds kept and gone on from", Edge.toy(Edge.PLAIN).then(Edge.exchanges(40)).then(x -> x.keep(k)),
                Edge.toy(Edge.PLAIN).then(Edge.exchanges(40)).then(x -> x.keep(k)).then(x -> x.undo(0)).then(x -> x.on(k)));
        }
        Edge.gives("count(11), all kept", there.then(x -> x.keep(0)).then(x -> x.keep(1)).then(x -> x.keep(2)), x -> x.count(11), 3);
        Edge.alike("the kept toys of three places are toys of their own", there.then(x -> {
            x.keep(0);
            x.turn(3);
            x.keep(1);
            x.undo(0);
            x.keep(2);
            x.on(1);
        }), there.then(x -> {
            x.turn(3);
            x.keep(1);
            x.undo(2);
            x.keep(0);
            x.undo(0);
            x.keep(2);
            x.turn(2);
            x.turn(0);
            x.turn(3);
        }));

        Edge.sentence(18, "BAD; STATE: no BEADS.");
        Edge.refuses("keep(3)", there.then(x -> x.keep(0)), x -> x.keep(3), Edge.BAD);
        Edge.refuses("keep(-1)", there.then(x -> x.keep(0)), x -> x.keep(-1), Edge.BAD);
        Edge.refuses("keep(HIGH)", there, x -> x.keep(Edge.HIGH), Edge.BAD);
        Edge.refuses("keep(LOW)", there, x -> x.keep(Edge.LOW), Edge.BAD);
        for (int p = 0; p < 3; p++) {
            int k = p;
            Edge.refuses("keep(" + k + ") without beads", Edge.text(0, Edge.PLAIN), x -> x.keep(k), Edge.STATE);
        }
        Edge.refuses("keep(3) without beads: both", Edge.NEW, x -> x.keep(3), Edge.BAD);
        Edge.refuses("keep(-1) without beads: both", Edge.NEW, x -> x.keep(-1), Edge.BAD);
    }

    static void on() {
        Edge.Setup there = Edge.toy(Edge.but(Edge.PLAIN, 8, "t8", 3, "w9")).then(Edge.turns(2, 0)).then(x -> x.exchange(9, 3)).then(x -> x.keep(1));
        Edge.sentence(19, "The TOY is as it was kept: how many DEEDS.");
        Edge.gives("on(1)", there, x -> x.on(1), 3);
        Edge.gives("on(1) behind more turns", there.then(Edge.turns(2, 2, 2)), x -> x.on(1), 3);
        Edge.alike("on(1) behind more turns", there, there.then(Edge.turns(2, 2, 2)).then(x -> x.on(1)));
        Edge.alike("on(1) behind all undone and others done", there, there.then(x -> x.undo(0)).then(Edge.turns(1, 3)).then(Edge.exchanges(3)).then(x -> x.on(1)));
        Edge.alike("on(1), gone on, and on(1) once more", there, there.then(x -> x.on(1)).then(x -> x.undo(1)).then(Edge.turns(0, 0)).then(x -> x.on(1)));
        Edge.gives("on(1) behind 40 deeds", there.then(Edge.exchanges(37)), x -> x.on(1), 3);
        Edge.gives("on(0) of a new toy kept", Edge.toy(Edge.PLAIN).then(x -> x.keep(0)).then(Edge.turns(0)), x -> x.on(0), 0);
        Edge.gives("on(2) leaves rows as they are now", Edge.toy(Edge.PLAIN).then(x -> x.keep(2)).then(Edge.row(1, 5)).then(x -> x.on(2)), x -> x.count(9), 1);

        Edge.sentence(19, "BAD; NOTHING.");
        Edge.refuses("on(3)", there, x -> x.on(3), Edge.BAD);
        Edge.refuses("on(-1)", there, x -> x.on(-1), Edge.BAD);
        Edge.refuses("on(HIGH)", there, x -> x.on(Edge.HIGH), Edge.BAD);
        Edge.refuses("on(LOW)", there, x -> x.on(Edge.LOW), Edge.BAD);
        Edge.finds("on(0), missing", there, x -> x.on(0), Edge.NOTHING);
        Edge.finds("on(2), missing", there, x -> x.on(2), Edge.NOTHING);
        Edge.finds("on(0) without beads", Edge.NEW, x -> x.on(0), Edge.NOTHING);
        Edge.refuses("on(3) without beads", Edge.NEW, x -> x.on(3), Edge.BAD);
    }

    // ---- lots

    static final long MODULUS = 2147483647L;

    static int lotBehind(int number) {
        return (int) (number * 48271L % MODULUS);
    }

    /** The seed whose first number is this one. */
    static int seedOf(int number) {
        BigInteger p = BigInteger.valueOf(MODULUS);
        return BigInteger.valueOf(48271L).modInverse(p).multiply(BigInteger.valueOf(number)).mod(p).intValue();
    }

    static void lots() {
        Edge.sentence(0, "a number comes from the one ahead by 48271 times it modulo 2147483647, the first from a seed (1 .. 2147483646).");
        // 48271: by 8 is 6033, modulo 8 is 1; modulo 4 is 3.
        Edge.alike("lots(1, 1) is turn(3)", Edge.toy(Edge.PLAIN).then(x -> x.turn(3)), Edge.toy(Edge.PLAIN).then(x -> x.lots(1, 1)));
        // 2147483647 - 48271: by 8 is 268429422, modulo 8 is 6; modulo 4 is 0.
        Edge.alike("lots(1, 2147483646) is turn(0)", Edge.toy(Edge.PLAIN).then(x -> x.turn(0)), Edge.toy(Edge.PLAIN).then(x -> x.lots(1, 2147483646)));
        for (int first : new int[] {1, 2, 44488, 44489, 2147483645, 2147483646}) {
            Edge.alike("lots(20, " + first + ") are twenty lots one behind the other", Edge.toy(Edge.PLAIN).then(x -> x.lots(20, first)), Edge.toy(Edge.PLAIN).then(x -> {
                int seed = first;
                for (int k = 0; k < 20; k++) {
                    x.lots(1, seed);
                    seed = lotBehind(seed);
                }
            }));
        }
    }

    static void lotsThatMove() {
        Edge.sentence(32, "for each a number: by what it by 8, cut, modulo 8 is: 0 to 6 MOVE it modulo 4 (if its RING is not BARRED)");
        for (int group = 0; group <= 6; group++) {
            for (int k = 0; k < 8; k++) {
                int move = k % 4;
                for (int number : new int[] {8 * group + k, 64 * 1000 + 8 * group + k, 64 * 33554430 + 8 * group + k}) {
                    if (number > 0) {
                        int seed = seedOf(number);
                        Edge.alike("the lot " + number + " is turn(" + move + ")", Edge.toy(Edge.PLAIN).then(x -> x.turn(move)), Edge.toy(Edge.PLAIN).then(x -> x.lots(1, seed)));
                    }
                }
            }
        }
        Edge.sentence(32, "what CELL 0 SHOWS then.");
        Edge.gives("the lot 2", Edge.toy(Edge.but(Edge.PLAIN, 13, "t9")), x -> x.lots(1, seedOf(2)), 0);
        Edge.gives("the lot 3", Edge.toy(Edge.PLAIN), x -> x.lots(1, seedOf(3)), 8);
        Edge.gives("the lot 57", Edge.toy(Edge.PLAIN), x -> x.lots(1, seedOf(57)), 1);
        Edge.gives("the lot 57 with a stuck one", Edge.toy(STUCK), x -> x.lots(1, seedOf(57)), 1);
    }

    static void lotExchanges(int number, int c, int d) {
        int seed = seedOf(number);
        Edge.alike("the lot " + number + " exchanges " + c + " and " + d, Edge.toy(Edge.PLAIN).then(x -> x.exchange(c, d)), Edge.toy(Edge.PLAIN).then(x -> x.lots(1, seed)));
    }

    static void lotsThatExchange() {
        Edge.sentence(32, "7 BEADS of CELL it modulo 14, and CELL it by 64, cut, modulo 14, are EXCHANGED (alike ones: nothing) (a DEED in any case)");
        lotExchanges(57, 1, 0);
        lotExchanges(63, 7, 0);
        lotExchanges(120, 8, 1);
        lotExchanges(125, 13, 1);
        lotExchanges(64 * 13 + 56, 888 % 14, 13);
        lotExchanges(64 * 14 + 57, 953 % 14, 0);
        lotExchanges(64 * 100 + 57, 6457 % 14, 100 % 14);
        lotExchanges(64 * 33554427 + 62, 2147483390 % 14, 33554427 % 14);
        lotExchanges(2147483646, 0, 1);
        // 56 is cell 0 and cell 0, 127 is cell 1 and cell 1.
        for (int number : new int[] {56, 127}) {
            int seed = seedOf(number);
            Edge.Setup lot = Edge.toy(Edge.PLAIN).then(x -> x.lots(1, seed));
            Edge.gives("count(6) behind the lot " + number, lot, x -> x.count(6), 14);
            Edge.gives("count(2) behind the lot " + number, lot, x -> x.count(2), 1);
            Edge.gives("count(1) behind the lot " + number, lot, x -> x.count(1), 0);
            Edge.gives("undo(0) behind the lot " + number, lot, x -> x.undo(0), 1);
            Edge.alike("the lot " + number + " undone", Edge.toy(Edge.PLAIN), lot.then(x -> x.undo(0)));
            Edge.gives("the lot " + number + " as the 40th deed", Edge.toy(Edge.PLAIN).then(Edge.exchanges(39)), x -> x.lots(1, seed), 0);
            Edge.refuses("the lot " + number + " as the 41st deed", Edge.toy(Edge.PLAIN).then(Edge.exchanges(40)), x -> x.lots(1, seed), Edge.FULL);
        }
        Edge.gives("by the lot 57 no bead is borne", Edge.toy(Edge.PLAIN).then(x -> x.lots(1, seedOf(57))), x -> x.bead(0, 3) * 100 + x.asked(), 100);
    }

    static void lotsBarred() {
        Edge.sentence(32, "MOVE it modulo 4 (if its RING is not BARRED)");
        for (int m = 0; m < 4; m++) {
            int move = m;
            int seed = seedOf(8 + move);
            Edge.Setup lot = Edge.toy(ROOTED).then(x -> x.lots(1, seed));
            Edge.gives("lots of move " + move + ", barred", Edge.toy(ROOTED), x -> x.lots(1, seed), 0);
            Edge.gives("count(6) behind it", lot, x -> x.count(6), 14);
            Edge.gives("count(1) behind it: no turn", lot, x -> x.count(1), 0);
            Edge.gives("count(2) behind it: a deed", lot, x -> x.count(2), 1);
            Edge.tells("bead(8, 3) behind it: not borne", lot, x -> x.bead(8, 3), 0);
            Edge.alike("it undone", Edge.toy(ROOTED), lot.then(x -> x.undo(0)));
            Edge.alike("it undone behind an exchange that frees the ring", Edge.toy(ROOTED), lot.then(x -> x.exchange(4, 5)).then(x -> x.undo(0)));
        }
        Edge.gives("ring 1 barred, ring 0 not", Edge.toy(STUCK), x -> x.lots(1, seedOf(8)), 7);
        Edge.gives("ring 1 barred", Edge.toy(STUCK), x -> x.lots(1, seedOf(10)), 0);
        Edge.gives("a barred deed kept and gone on from", Edge.toy(STUCK).then(x -> {
            x.lots(1, seedOf(10));
            x.keep(0);
            x.turn(0);
            x.on(0);
        }), x -> x.undo(0), 1);
    }

    static void lotsRefused() {
        Edge.sentence(32, "n (1 .. 20) DEEDS truly by LOTS of a seed");
        Edge.gives("count(2) behind lots(1, 1)", Edge.toy(Edge.PLAIN).then(x -> x.lots(1, 1)), x -> x.count(2), 1);
        Edge.gives("count(2) behind lots(20, 1)", Edge.toy(Edge.PLAIN).then(x -> x.lots(20, 1)), x -> x.count(2), 20);

        Edge.sentence(32, "STATE: no BEADS; BAD; FULL: with n more there would be more than 40 DEEDS. (In this order.)");
        Edge.refuses("lots(1, 1) without beads", Edge.text(0, Edge.PLAIN), x -> x.lots(1, 1), Edge.STATE);
        Edge.refuses("lots(0, 1) without beads: both", Edge.NEW, x -> x.lots(0, 1), Edge.STATE);
        Edge.refuses("lots(1, 0) without beads: both", Edge.NEW, x -> x.lots(1, 0), Edge.STATE);
        Edge.refuses("lots(41, 1) without beads: all", Edge.NEW, x -> x.lots(41, 1), Edge.STATE);
        for (int many : new int[] {0, 40}) {
            Edge.Setup there = Edge.toy(Edge.PLAIN).then(Edge.exchanges(many));
            String behind = " behind " + many + " deeds";
            Edge.refuses("lots(0, 1)" + behind, there, x -> x.lots(0, 1), Edge.BAD);
            Edge.refuses("lots(21, 1)" + behind, there, x -> x.lots(21, 1), Edge.BAD);
            Edge.refuses("lots(-1, 1)" + behind, there, x -> x.lots(-1, 1), Edge.BAD);
            Edge.refuses("lots(LOW, 1)" + behind, there, x -> x.lots(Edge.LOW, 1), Edge.BAD);
            Edge.refuses("lots(HIGH, 1)" + behind, there, x -> x.lots(Edge.HIGH, 1), Edge.BAD);
            Edge.refuses("lots(1, 0)" + behind, there, x -> x.lots(1, 0), Edge.BAD);
            Edge.refuses("lots(1, -1)" + behind, there, x -> x.lots(1, -1), Edge.BAD);
            Edge.refuses("lots(1, LOW)" + behind, there, x -> x.lots(1, Edge.LOW), Edge.BAD);
            Edge.refuses("lots(1, HIGH)" + behind, there, x -> x.lots(1, Edge.HIGH), Edge.BAD);
        }
        for (int n = 1; n <= 20; n++) {
            int many = n;
            Edge.gives("lots(" + many + ", 9) up to the 40th", Edge.toy(Edge.PLAIN).then(Edge.exchanges(40 - many)).then(x -> x.lots(many, 9)), x -> x.count(2), 40);
            Edge.refuses("lots(" + many + ", 9) up to the 41st", Edge.toy(Edge.PLAIN).then(Edge.exchanges(41 - many)), x -> x.lots(many, 9), Edge.FULL);
        }
        Edge.refuses("lots(20, 9) behind 40", Edge.toy(Edge.PLAIN).then(Edge.exchanges(40)), x -> x.lots(20, 9), Edge.FULL);
    }
}
