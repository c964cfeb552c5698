/** The edges that the document names for rows and texts: its first terms, promises 1 to 9. */
public final class EdgesRowsTest {
    static final Edge.Setup FULL_ROWS = x -> {
        for (int r = 0; r < 6; r++) Edge.row(r, Edge.repeat(40, r + 1)).on(x);
    };

    public static void main(String[] args) {
        all();
        Edge.end("EdgesRowsTest");
    }

    static void all() {
        sizes();
        row();
        layAndAt();
        tear();
        copy();
        mean();
        text();
        put();
    }

    static void sizes() {
        Edge.sentence(1, "No ROWS, TEXTS, BEADS.");
        for (int what = 0; what <= 11; what++) {
            int w = what;
            Edge.gives("count(" + w + ") of a new object", Edge.NEW, x -> x.count(w), 0);
        }

        Edge.sentence(0, "ROWS 0 .. 5 are rows of 0 to 40 ints, TEXTS 0 .. 3 rows of 0 to 60 bytes, or missing (at first).");
        for (int k = 0; k < 6; k++) {
            int r = k;
            Edge.finds("at(" + r + ", 0) of a new object", Edge.NEW, x -> x.at(r, 0), Edge.NOTHING);
            Edge.gives("row(" + r + ", 0)", Edge.NEW, x -> x.row(r, 0), 0);
            Edge.gives("row(" + r + ", 40)", Edge.NEW, x -> x.row(r, 40), 40);
            Edge.lies("six full rows", FULL_ROWS, r, Edge.repeat(40, r + 1));
        }
        for (int k = 0; k < 4; k++) {
            int t = k;
            Edge.finds("put(" + t + ", 0, 1) of a new object", Edge.NEW, x -> x.put(t, 0, 1), Edge.NOTHING);
            Edge.gives("text(" + t + ", 0)", Edge.NEW, x -> x.text(t, 0), 0);
            Edge.gives("text(" + t + ", 60)", Edge.NEW, x -> x.text(t, 60), 60);
        }
        Edge.gives("four full texts are texts of their own", x -> {
            for (int t = 0; t < 4; t++) {
                x.text(t, 60);
                x.put(t, 59, 'a' + t);
            }
        }, x -> ((x.put(0, 59, 0) * 2000L + x.put(1, 59, 0)) * 2000L + x.put(2, 59, 0)) * 2000L + x.put(3, 59, 0),
            ((1097 * 2000L + 1098) * 2000L + 1099) * 2000L + 1100);
    }

    static void row() {
        Edge.sentence(2, "A ROW is there with n ints 0: n.");
        Edge.gives("row(0, 1)", Edge.NEW, x -> x.row(0, 1), 1);
        Edge.lies("row(0, 0)", x -> x.row(0, 0), 0);
        Edge.lies("row(0, 1)", x -> x.row(0, 1), 0, 0);
        Edge.lies("row(5, 40)", x -> x.row(5, 40), 5, new int[40]);
        Edge.lies("a row anew", Edge.row(1, 7, 8, 9).then(x -> x.row(1, 3)), 1, 0, 0, 0);
        Edge.lies("a row shorter anew", Edge.row(1, 7, 8, 9).then(x -> x.row(1, 2)), 1, 0, 0);
        Edge.lies("a row shorter, then longer", Edge.row(1, 7, 8, 9).then(x -> x.row(1, 0)).then(x -> x.row(1, 3)), 1, 0, 0, 0);
        Edge.lies("a row torn, then anew", Edge.row(1, 7, 8, 9).then(x -> x.tear(1)).then(x -> x.row(1, 3)), 1, 0, 0, 0);
        Edge.lies("the row beside one that is anew", Edge.row(1, 7, 8, 9).then(x -> x.row(2, 3)).then(x -> x.row(0, 3)), 1, 7, 8, 9);

        Edge.sentence(2, "BAD: also n above 40; SIZE: below 0.");
        Edge.Setup there = Edge.row(0, 4, 5).then(Edge.row(5, 6));
        Edge.gives("row(0, 40)", there, x -> x.row(0, 40), 40);
        Edge.refuses("row(0, 41)", there, x -> x.row(0, 41), Edge.BAD);
        Edge.refuses("row(5, HIGH)", there, x -> x.row(5, Edge.HIGH), Edge.BAD);
        Edge.refuses("row(6, 1)", there, x -> x.row(6, 1), Edge.BAD);
        Edge.refuses("row(-1, 1)", there, x -> x.row(-1, 1), Edge.BAD);
        Edge.refuses("row(HIGH, 0)", there, x -> x.row(Edge.HIGH, 0), Edge.BAD);
        Edge.refuses("row(LOW, 0)", there, x -> x.row(Edge.LOW, 0), Edge.BAD);
        Edge.finds("row(0, -1)", there, x -> x.row(0, -1), Edge.SIZE);
        Edge.finds("row(5, LOW)", there, x -> x.row(5, Edge.LOW), Edge.SIZE);
        Edge.finds("row(3, -1), missing", there, x -> x.row(3, -1), Edge.SIZE);
        Edge.refuses("row(6, -1): both", there, x -> x.row(6, -1), Edge.BAD);
        Edge.refuses("row(-1, LOW): both", there, x -> x.row(-1, Edge.LOW), Edge.BAD);
        Edge.refuses("row(6, 41): both", there, x -> x.row(6, 41), Edge.BAD);
    }

    static void layAndAt() {
        Edge.Setup there = Edge.row(2, 10, 20, 30).then(x -> x.row(3, 0)).then(Edge.row(5, Edge.repeat(40, 6)));

        Edge.sentence(3, "Place i of a ROW is v: what it was, told by asked(): 1.");
        Edge.tells("lay(2, 0, HIGH)", there, x -> x.lay(2, 0, Edge.HIGH), 10);
        Edge.tells("lay(2, 2, LOW)", there, x -> x.lay(2, 2, Edge.LOW), 30);
        Edge.tells("lay(5, 39, 0)", there, x -> x.lay(5, 39, 0), 6);
        Edge.lies("lay(2, 0, HIGH)", there.then(x -> x.lay(2, 0, Edge.HIGH)), 2, Edge.HIGH, 20, 30);
        Edge.lies("lay(2, 2, LOW)", there.then(x -> x.lay(2, 2, Edge.LOW)), 2, 10, 20, Edge.LOW);
        Edge.lies("lay(5, 39, 0)", there.then(x -> x.lay(5, 39, 0)), 5, Edge.with(Edge.repeat(40, 6), 39, 0));

        Edge.sentence(3, "BAD; NOTHING; BEYOND.");
        Edge.refuses("lay(6, 0, 1)", there, x -> x.lay(6, 0, 1), Edge.BAD);
        Edge.refuses("lay(-1, 0, 1)", there, x -> x.lay(-1, 0, 1), Edge.BAD);
        Edge.finds("lay(0, 0, 1), missing", there, x -> x.lay(0, 0, 1), Edge.NOTHING);
        Edge.finds("lay(2, 3, 1)", there, x -> x.lay(2, 3, 1), Edge.BEYOND);
        Edge.finds("lay(2, -1, 1)", there, x -> x.lay(2, -1, 1), Edge.BEYOND);
        Edge.finds("lay(3, 0, 1), empty", there, x -> x.lay(3, 0, 1), Edge.BEYOND);
        Edge.finds("lay(5, 40, 1), full", there, x -> x.lay(5, 40, 1), Edge.BEYOND);
        Edge.finds("lay(2, HIGH, 1)", there, x -> x.lay(2, Edge.HIGH, 1), Edge.BEYOND);
        Edge.finds("lay(2, LOW, 1)", there, x -> x.lay(2, Edge.LOW, 1), Edge.BEYOND);
        Edge.refuses("lay(6, -1, 1): BAD and BEYOND", there, x -> x.lay(6, -1, 1), Edge.BAD);
        Edge.finds("lay(0, -1, 1): NOTHING and BEYOND", there, x -> x.lay(0, -1, 1), Edge.NOTHING);
        Edge.finds("lay(0, 40, 1): NOTHING and BEYOND", there, x -> x.lay(0, 40, 1), Edge.NOTHING);

        Edge.sentence(4, "Place i of a ROW, told by asked(): 1. BAD; NOTHING; BEYOND.");
        Edge.tells("at(2, 0)", there, x -> x.at(2, 0), 10);
        Edge.tells("at(2, 2)", there, x -> x.at(2, 2), 30);
        Edge.tells("at(5, 39)", there, x -> x.at(5, 39), 6);
        Edge.refuses("at(6, 0)", there, x -> x.at(6, 0), Edge.BAD);
        Edge.refuses("at(-1, 0)", there, x -> x.at(-1, 0), Edge.BAD);
        Edge.finds("at(0, 0), missing", there, x -> x.at(0, 0), Edge.NOTHING);
        Edge.finds("at(2, 3)", there, x -> x.at(2, 3), Edge.BEYOND);
        Edge.finds("at(2, -1)", there, x -> x.at(2, -1), Edge.BEYOND);
        Edge.finds("at(3, 0), empty", there, x -> x.at(3, 0), Edge.BEYOND);
        Edge.finds("at(5, 40), full", there, x -> x.at(5, 40), Edge.BEYOND);
        Edge.finds("at(2, LOW)", there, x -> x.at(2, Edge.LOW), Edge.BEYOND);
        Edge.finds("at(2, HIGH)", there, x -> x.at(2, Edge.HIGH), Edge.BEYOND);
        Edge.refuses("at(6, -1): BAD and BEYOND", there, x -> x.at(6, -1), Edge.BAD);
        Edge.finds("at(0, -1): NOTHING and BEYOND", there, x -> x.at(0, -1), Edge.NOTHING);
        Edge.finds("at(0, 40): NOTHING and BEYOND", there, x -> x.at(0, 40), Edge.NOTHING);
    }

    static void tear() {
        Edge.Setup there = Edge.row(0, 4, 5).then(x -> x.row(2, 0)).then(Edge.row(5, Edge.repeat(40, 6)));
        Edge.sentence(5, "A ROW is missing: 1. BAD; NOTHING.");
        for (int r : new int[] {0, 2, 5}) {
            Edge.gives("tear(" + r + ")", there, x -> x.tear(r), 1);
            Edge.missing("tear(" + r + ")", there.then(x -> x.tear(r)), r);
            Edge.gives("count(9) behind tear(" + r + ")", there.then(x -> x.tear(r)), x -> x.count(9), 2);
            Edge.finds("tear(" + r + ") again", there.then(x -> x.tear(r)), x -> x.tear(r), Edge.NOTHING);
        }
        Edge.lies("the row beside one that is torn", there.then(x -> x.tear(5)), 0, 4, 5);
        Edge.refuses("tear(6)", there, x -> x.tear(6), Edge.BAD);
        Edge.refuses("tear(-1)", there, x -> x.tear(-1), Edge.BAD);
        Edge.finds("tear(1), missing", there, x -> x.tear(1), Edge.NOTHING);
    }

    static void copy() {
        Edge.Setup there = Edge.row(0, 1, 2, 3, 4, 5).then(Edge.row(1, 8, 9)).then(x -> x.row(3, 0)).then(Edge.row(5, Edge.upTo(40)));

        Edge.sentence(6, "n places of a ROW, from one on, come to those of another one (perhaps itself) from one on, as if taken ahead: 1.");
        Edge.gives("copy(0, 0, 1, 0, 2)", there, x -> x.copy(0, 0, 1, 0, 2), 1);
        Edge.lies("copy(0, 0, 1, 0, 2)", there.then(x -> x.copy(0, 0, 1, 0, 2)), 1, 1, 2);
        Edge.lies("copy(0, 3, 1, 0, 2), up to the end of either", there.then(x -> x.copy(0, 3, 1, 0, 2)), 1, 4, 5);
        Edge.lies("copy(0, 4, 1, 1, 1), the last of either", there.then(x -> x.copy(0, 4, 1, 1, 1)), 1, 8, 5);
        Edge.lies("copy(0, 0, 0, 1, 4), onto itself, on", there.then(x -> x.copy(0, 0, 0, 1, 4)), 0, 1, 1, 2, 3, 4);
        Edge.lies("copy(0, 1, 0, 0, 4), onto itself, back", there.then(x -> x.copy(0, 1, 0, 0, 4)), 0, 2, 3, 4, 5, 5);
        Edge.lies("copy(0, 0, 0, 0, 5), onto itself", there.then(x -> x.copy(0, 0, 0, 0, 5)), 0, 1, 2, 3, 4, 5);
        Edge.gives("copy(5, 0, 5, 1, 39)", there, x -> x.copy(5, 0, 5, 1, 39), 1);
        Edge.lies("copy(5, 0, 5, 39, 1)", there.then(x -> x.copy(5, 0, 5, 39, 1)), 5, Edge.with(Edge.upTo(40), 39, 0));
        Edge.lies("copied from, a row stays", there.then(x -> x.copy(0, 0, 1, 0, 2)), 0, 1, 2, 3, 4, 5);
        Edge.alike("a copy of no places changes nothing", there, there.then(x -> x.copy(0, 2, 1, 1, 0)));
        Edge.gives("copy(0, 2, 1, 1, 0)", there, x -> x.copy(0, 2, 1, 1, 0), 1);
        Edge.gives("copy(0, 5, 1, 2, 0), just behind either", there, x -> x.copy(0, 5, 1, 2, 0), 1);
        Edge.gives("copy(3, 0, 3, 0, 0), empty", there, x -> x.copy(3, 0, 3, 0, 0), 1);

        Edge.sentence(6, "BAD; SIZE: n below 0; NOTHING: either; BEYOND: not so many there.");
        Edge.refuses("copy(6, 0, 0, 0, 1)", there, x -> x.copy(6, 0, 0, 0, 1), Edge.BAD);
        Edge.refuses("copy(-1, 0, 0, 0, 1)", there, x -> x.copy(-1, 0, 0, 0, 1), Edge.BAD);
        Edge.refuses("copy(0, 0, 6, 0, 1)", there, x -> x.copy(0, 0, 6, 0, 1), Edge.BAD);
        Edge.refuses("copy(0, 0, -1, 0, 1)", there, x -> x.copy(0, 0, -1, 0, 1), Edge.BAD);
        Edge.finds("copy(0, 0, 1, 0, -1)", there, x -> x.copy(0, 0, 1, 0, -1), Edge.SIZE);
        Edge.finds("copy(0, 0, 1, 0, LOW)", there, x -> x.copy(0, 0, 1, 0, Edge.LOW), Edge.SIZE);
        Edge.finds("copy(2, 0, 0, 0, 1), the first missing", there, x -> x.copy(2, 0, 0, 0, 1), Edge.NOTHING);
        Edge.finds("copy(0, 0, 2, 0, 1), the other missing", there, x -> x.copy(0, 0, 2, 0, 1), Edge.NOTHING);
        Edge.finds("copy(2, 0, 0, 0, 0), of none", there, x -> x.copy(2, 0, 0, 0, 0), Edge.NOTHING);
        Edge.finds("copy(0, 0, 1, 0, 3), too many for the other", there, x -> x.copy(0, 0, 1, 0, 3), Edge.BEYOND);
        Edge.finds("copy(1, 0, 0, 0, 3), too many of the first", there, x -> x.copy(1, 0, 0, 0, 3), Edge.BEYOND);
        Edge.finds("copy(0, 4, 1, 0, 2)", there, x -> x.copy(0, 4, 1, 0, 2), Edge.BEYOND);
        Edge.finds("copy(0, 0, 1, 1, 2)", there, x -> x.copy(0, 0, 1, 1, 2), Edge.BEYOND);
        Edge.finds("copy(0, -1, 1, 0, 1)", there, x -> x.copy(0, -1, 1, 0, 1), Edge.BEYOND);
        Edge.finds("copy(0, 0, 1, -1, 1)", there, x -> x.copy(0, 0, 1, -1, 1), Edge.BEYOND);
        Edge.finds("copy(0, -1, 1, 0, 0)", there, x -> x.copy(0, -1, 1, 0, 0), Edge.BEYOND);
        Edge.finds("copy(0, 6, 1, 0, 0)", there, x -> x.copy(0, 6, 1, 0, 0), Edge.BEYOND);
        Edge.finds("copy(0, 0, 1, 3, 0)", there, x -> x.copy(0, 0, 1, 3, 0), Edge.BEYOND);
        Edge.finds("copy(5, 0, 5, 1, 40)", there, x -> x.copy(5, 0, 5, 1, 40), Edge.BEYOND);
        Edge.finds("copy(0, 1, 1, 0, HIGH)", there, x -> x.copy(0, 1, 1, 0, Edge.HIGH), Edge.BEYOND);
        Edge.finds("copy(0, HIGH, 1, 0, HIGH)", there, x -> x.copy(0, Edge.HIGH, 1, 0, Edge.HIGH), Edge.BEYOND);
        Edge.finds("copy(0, 0, 1, HIGH, 1)", there, x -> x.copy(0, 0, 1, Edge.HIGH, 1), Edge.BEYOND);
        Edge.finds("copy(0, LOW, 1, 0, 1)", there, x -> x.copy(0, Edge.LOW, 1, 0, 1), Edge.BEYOND);
        Edge.refuses("copy(6, 0, 0, 0, -1): BAD and SIZE", there, x -> x.copy(6, 0, 0, 0, -1), Edge.BAD);
        Edge.refuses("copy(2, 0, 6, 0, 1): BAD and NOTHING", there, x -> x.copy(2, 0, 6, 0, 1), Edge.BAD);
        Edge.refuses("copy(0, 99, 6, 0, 1): BAD and BEYOND", there, x -> x.copy(0, 99, 6, 0, 1), Edge.BAD);
        Edge.finds("copy(2, 0, 0, 0, -1): SIZE and NOTHING", there, x -> x.copy(2, 0, 0, 0, -1), Edge.SIZE);
        Edge.finds("copy(0, 9, 1, 0, -1): SIZE and BEYOND", there, x -> x.copy(0, 9, 1, 0, -1), Edge.SIZE);
        Edge.finds("copy(0, 9, 2, 0, 1): NOTHING and BEYOND", there, x -> x.copy(0, 9, 2, 0, 1), Edge.NOTHING);
        Edge.finds("copy(2, 0, 0, 9, 1): NOTHING and BEYOND", there, x -> x.copy(2, 0, 0, 9, 1), Edge.NOTHING);
    }

    static void mean() {
        Edge.sentence(7, "The mean of a ROW's ints, cut, told by asked(): 1.");
        Edge.tells("mean of 7", Edge.row(0, 7), x -> x.mean(0), 7);
        Edge.tells("mean of 3, 4", Edge.row(0, 3, 4), x -> x.mean(0), 3);
        Edge.tells("mean of 3, 4, 4", Edge.row(0, 3, 4, 4), x -> x.mean(0), 3);
        Edge.tells("mean of -3, -4", Edge.row(0, -3, -4), x -> x.mean(0), -3);
        Edge.tells("mean of 0, -1", Edge.row(0, 0, -1), x -> x.mean(0), 0);
        Edge.tells("mean of 40 times HIGH", Edge.row(5, Edge.repeat(40, Edge.HIGH)), x -> x.mean(5), Edge.HIGH);
        Edge.tells("mean of 40 times LOW", Edge.row(5, Edge.repeat(40, Edge.LOW)), x -> x.mean(5), Edge.LOW);
        Edge.tells("mean of 0 .. 39", Edge.row(5, Edge.upTo(40)), x -> x.mean(5), 19);
        Edge.tells("mean of a row that is shorter anew", Edge.row(0, 9, 9, 9).then(Edge.row(0, 4)), x -> x.mean(0), 4);

        Edge.sentence(7, "BAD; NOTHING; NOUGHT.");
        Edge.Setup there = Edge.row(0, 4, 5).then(x -> x.row(5, 0));
        Edge.refuses("mean(6)", there, x -> x.mean(6), Edge.BAD);
        Edge.refuses("mean(-1)", there, x -> x.mean(-1), Edge.BAD);
        Edge.finds("mean(1), missing", there, x -> x.mean(1), Edge.NOTHING);
        Edge.finds("mean(5), empty", there, x -> x.mean(5), Edge.NOUGHT);
    }

    static void text() {
        Edge.Setup there = Edge.text(0, "abc").then(Edge.text(3, "d"));
        Edge.sentence(8, "A TEXT is there with n blanks: n.");
        for (int k = 0; k < 60; k++) {
            int i = k;
            Edge.gives("put(3, " + i + ", 0) behind text(3, 60)", there.then(x -> x.text(3, 60)), x -> x.put(3, i, 0), 1032);
        }
        Edge.gives("text(1, 1)", there, x -> x.text(1, 1), 1);
        Edge.gives("a text anew is blank", there.then(x -> x.text(0, 3)), x -> x.put(0, 2, 0), 1032);
        Edge.gives("a text shorter, then longer, is blank", there.then(x -> x.text(0, 0)).then(x -> x.text(0, 3)), x -> x.put(0, 1, 0), 1032);
        Edge.gives("the text beside one that is anew stays", there.then(x -> x.text(1, 3)), x -> x.put(0, 1, 0), 1098);
        Edge.finds("put(0, 0, 0) behind text(0, 0)", there.then(x -> x.text(0, 0)), x -> x.put(0, 0, 0), Edge.BEYOND);

        Edge.sentence(8, "BAD: also n above 60; SIZE: below 0.");
        Edge.gives("text(0, 60)", there, x -> x.text(0, 60), 60);
        Edge.refuses("text(0, 61)", there, x -> x.text(0, 61), Edge.BAD);
        Edge.refuses("text(3, HIGH)", there, x -> x.text(3, Edge.HIGH), Edge.BAD);
        Edge.refuses("text(4, 1)", there, x -> x.text(4, 1), Edge.BAD);
        Edge.refuses("text(-1, 1)", there, x -> x.text(-1, 1), Edge.BAD);
        Edge.finds("text(0, -1)", there, x -> x.text(0, -1), Edge.SIZE);
        Edge.finds("text(3, LOW)", there, x -> x.text(3, Edge.LOW), Edge.SIZE);
        Edge.finds("text(1, -1), missing", there, x -> x.text(1, -1), Edge.SIZE);
        Edge.refuses("text(4, -1): both", there, x -> x.text(4, -1), Edge.BAD);
        Edge.refuses("text(-1, LOW): both", there, x -> x.text(-1, Edge.LOW), Edge.BAD);
        Edge.refuses("text(4, 61): both", there, x -> x.text(4, 61), Edge.BAD);
    }

    static void put() {
        Edge.sentence(9, "Byte i of a TEXT is v, cut to a byte: what it was, and 1000 more.");
        int[][] cuts = {{0, 0}, {1, 1}, {127, 127}, {128, -128}, {255, -1}, {256, 0}, {383, 127}, {384, -128}, {-1, -1},
            {-128, -128}, {-129, 127}, {-256, 0}, {Edge.HIGH, -1}, {Edge.LOW, 0}};
        for (int[] cut : cuts) {
            Edge.gives("put behind put of " + cut[0], x -> {
                x.text(3, 60);
                x.put(3, 59, cut[0]);
            }, x -> x.put(3, 59, 5), 1000 + cut[1]);
        }
        Edge.Setup there = Edge.text(0, "abc").then(x -> x.text(1, 0)).then(x -> x.text(3, 60));
        Edge.gives("put(0, 0, 1)", there, x -> x.put(0, 0, 1), 1097);
        Edge.gives("put(0, 2, 1)", there, x -> x.put(0, 2, 1), 1099);
        Edge.gives("put(0, 1, 1) leaves the byte behind", there.then(x -> x.put(0, 1, 1)), x -> x.put(0, 2, 1), 1099);
        Edge.gives("put(0, 1, 1) leaves the byte ahead", there.then(x -> x.put(0, 1, 1)), x -> x.put(0, 0, 1), 1097);
        Edge.gives("put tells nothing by asked()", there.then(x -> x.put(0, 1, 1)), x -> x.asked(), 0);

        Edge.sentence(9, "BAD; NOTHING; BEYOND.");
        Edge.refuses("put(4, 0, 1)", there, x -> x.put(4, 0, 1), Edge.BAD);
        Edge.refuses("put(-1, 0, 1)", there, x -> x.put(-1, 0, 1), Edge.BAD);
        Edge.finds("put(2, 0, 1), missing", there, x -> x.put(2, 0, 1), Edge.NOTHING);
        Edge.finds("put(0, 3, 1)", there, x -> x.put(0, 3, 1), Edge.BEYOND);
        Edge.finds("put(0, -1, 1)", there, x -> x.put(0, -1, 1), Edge.BEYOND);
        Edge.finds("put(1, 0, 1), empty", there, x -> x.put(1, 0, 1), Edge.BEYOND);
        Edge.finds("put(3, 60, 1), full", there, x -> x.put(3, 60, 1), Edge.BEYOND);
        Edge.finds("put(0, HIGH, 1)", there, x -> x.put(0, Edge.HIGH, 1), Edge.BEYOND);
        Edge.finds("put(0, LOW, 1)", there, x -> x.put(0, Edge.LOW, 1), Edge.BEYOND);
        Edge.refuses("put(4, -1, 1): BAD and BEYOND", there, x -> x.put(4, -1, 1), Edge.BAD);
        Edge.finds("put(2, -1, 1): NOTHING and BEYOND", there, x -> x.put(2, -1, 1), Edge.NOTHING);
        Edge.finds("put(2, 60, 1): NOTHING and BEYOND", there, x -> x.put(2, 60, 1), Edge.NOTHING);
    }
}
