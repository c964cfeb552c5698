/** For each promise of the document: ordinary calls, the edges it names, wrong inputs, with answers worked out by hand. */
public final class PromisesTest {
    static final int BAD = -1, FULL = -2, FINDING = -3, STATE = -4, NONE = -9;
    static final int NOTHING = 1, BEYOND = 2, UNLIKE = 3, NOUGHT = 4, SIZE = 5;
    static final int LOW = Integer.MIN_VALUE, HIGH = Integer.MAX_VALUE;
    static final String PLAIN = "b0b1b2b3b4b5b6b7b8b9b0b1b2b3";
    static final String MIXED = "b1 t2 w9 b3 g4 b5 t9 b0 w7 b6 t8 b2 g1 b7";

    static int wrong = 0;
    static int promise = 0;
    static CrossedRings x = null;

    static void due(String call, long got, long want) {
        if (got != want) {
            wrong++;
            System.out.println("promise " + promise + ": " + call + " answered " + got + ", due is " + want);
        }
    }

    static void refused(String call, int got, int finding) {
        due(call, got, FINDING);
        due(call + ", then finding()", x.finding(), finding);
    }

    /** A call that tells by asked(). */
    static void told(String call, int got, int want) {
        due(call, got, 1);
        due(call + ", then asked()", x.asked(), want);
    }

    static void shares(String call, int got, long upper, long lower) {
        due(call, got, 1);
        due(call + ", then upper()", x.upper(), upper);
        due(call + ", then lower()", x.lower(), lower);
    }

    static void begin(int number) {
        promise = number;
        x = new CrossedRings();
    }

    static void begin(int number, String toy) {
        begin(number);
        write(0, toy);
        due("toy(0)", x.toy(0), 14);
    }

    static void write(int t, String s) {
        x.text(t, s.length());
        for (int i = 0; i < s.length(); i++) {
            x.put(t, i, s.charAt(i));
        }
    }

    static void fill(int r, int... values) {
        x.row(r, values.length);
        for (int i = 0; i < values.length; i++) {
            x.lay(r, i, values[i]);
        }
    }

    static void holds(int r, int... values) {
        for (int i = 0; i < values.length; i++) {
            told("at(" + r + ", " + i + ")", x.at(r, i), values[i]);
        }
        refused("at(" + r + ", its size)", x.at(r, values.length), BEYOND);
    }

    public static void main(String[] args) {
        rowsAndTexts();
        toys();
        deeds();
        aside();
        fewestMoves();
        guesses();
        chances();
        tellings();
        System.out.println(wrong == 0 ? "all promises are kept" : wrong + " answers are not as due");
        if (wrong != 0) {
            System.exit(1);
        }
    }

    static void rowsAndTexts() {
        begin(1);
        for (int what = 0; what <= 11; what++) due("count(" + what + ")", x.count(what), 0);
        due("asked()", x.asked(), 0);
        due("upper()", x.upper(), 0);
        due("lower()", x.lower(), 1);
        due("finding()", x.finding(), 0);
        refused("at(0, 0)", x.at(0, 0), NOTHING);
        refused("fault(0)", x.fault(0), NOTHING);

        begin(2);
        due("row(0, 0)", x.row(0, 0), 0);
        due("row(5, 40)", x.row(5, 40), 40);
        due("row(5, 41)", x.row(5, 41), BAD);
        due("row(6, 1)", x.row(6, 1), BAD);
        due("row(-1, -1)", x.row(-1, -1), BAD);
        due("finding()", x.finding(), 0);
        refused("row(0, -1)", x.row(0, -1), SIZE);
        refused("row(5, LOW)", x.row(5, LOW), SIZE);
        due("count(9)", x.count(9), 2);
        told("at(5, 39)", x.at(5, 39), 0);
        x.lay(5, 3, 8);
        due("row(5, 4)", x.row(5, 4), 4);
        told("at(5, 3)", x.at(5, 3), 0);
        refused("at(5, 4)", x.at(5, 4), BEYOND);

        begin(3);
        due("lay(6, 0, 0)", x.lay(6, 0, 0), BAD);
        due("lay(-1, 0, 0)", x.lay(-1, 0, 0), BAD);
        refused("lay(2, 0, 1)", x.lay(2, 0, 1), NOTHING);
        x.row(2, 3);
        told("lay(2, 2, HIGH)", x.lay(2, 2, HIGH), 0);
        told("lay(2, 2, LOW)", x.lay(2, 2, LOW), HIGH);
        told("at(2, 2)", x.at(2, 2), LOW);
        refused("lay(2, 3, 1)", x.lay(2, 3, 1), BEYOND);
        refused("lay(2, -1, 1)", x.lay(2, -1, 1), BEYOND);
        refused("lay(2, LOW, 1)", x.lay(2, LOW, 1), BEYOND);
        due("asked()", x.asked(), LOW);

        begin(4);
        due("at(6, 0)", x.at(6, 0), BAD);
        refused("at(5, -1)", x.at(5, -1), NOTHING);
        fill(5, 7, -8);
        told("at(5, 0)", x.at(5, 0), 7);
        told("at(5, 1)", x.at(5, 1), -8);
        refused("at(5, 2)", x.at(5, 2), BEYOND);
        refused("at(5, HIGH)", x.at(5, HIGH), BEYOND);

        begin(5);
        due("tear(6)", x.tear(6), BAD);
        refused("tear(1)", x.tear(1), NOTHING);
        x.row(1, 0);
        due("tear(1)", x.tear(1), 1);
        refused("tear(1)", x.tear(1), NOTHING);
        refused("at(1, 0)", x.at(1, 0), NOTHING);
        due("count(9)", x.count(9), 0);

        begin(6);
        due("copy(6, 0, 0, 0, -1)", x.copy(6, 0, 0, 0, -1), BAD);
        due("copy(0, 0, -1, 0, 0)", x.copy(0, 0, -1, 0, 0), BAD);
        refused("copy(0, 0, 1, 0, -1)", x.copy(0, 0, 1, 0, -1), SIZE);
        refused("copy(0, 9, 1, 9, 1)", x.copy(0, 9, 1, 9, 1), NOTHING);
        fill(0, 1, 2, 3, 4, 5);
        refused("copy(0, 0, 1, 0, 1)", x.copy(0, 0, 1, 0, 1), NOTHING);
        refused("copy(1, 0, 0, 0, 1)", x.copy(1, 0, 0, 0, 1), NOTHING);
        due("copy(0, 0, 0, 1, 4)", x.copy(0, 0, 0, 1, 4), 1);
        holds(0, 1, 1, 2, 3, 4);
        due("copy(0, 2, 0, 0, 3)", x.copy(0, 2, 0, 0, 3), 1);
        holds(0, 2, 3, 4, 3, 4);
        fill(1, 9, 9);
        due("copy(0, 1, 1, 0, 2)", x.copy(0, 1, 1, 0, 2), 1);
        holds(1, 3, 4);
        due("copy(0, 5, 1, 2, 0)", x.copy(0, 5, 1, 2, 0), 1);
        refused("copy(0, 6, 1, 0, 0)", x.copy(0, 6, 1, 0, 0), BEYOND);
        refused("copy(0, 0, 1, 3, 0)", x.copy(0, 0, 1, 3, 0), BEYOND);
        refused("copy(0, 0, 1, 0, 3)", x.copy(0, 0, 1, 0, 3), BEYOND);
        refused("copy(1, 0, 0, 0, 3)", x.copy(1, 0, 0, 0, 3), BEYOND);
        refused("copy(0, -1, 1, 0, 1)", x.copy(0, -1, 1, 0, 1), BEYOND);
        refused("copy(0, 1, 1, 0, HIGH)", x.copy(0, 1, 1, 0, HIGH), BEYOND);
        refused("copy(0, 0, 1, HIGH, 1)", x.copy(0, 0, 1, HIGH, 1), BEYOND);
        holds(1, 3, 4);

        begin(7);
        due("mean(-1)", x.mean(-1), BAD);
        refused("mean(0)", x.mean(0), NOTHING);
        x.row(0, 0);
        refused("mean(0)", x.mean(0), NOUGHT);
        fill(0, 3, 4, 4);
        told("mean(0)", x.mean(0), 3);
        fill(0, -3, -4);
        told("mean(0)", x.mean(0), -3);
        fill(0, HIGH, HIGH, HIGH);
        told("mean(0)", x.mean(0), HIGH);
        fill(0, LOW, LOW);
        told("mean(0)", x.mean(0), LOW);

        begin(8);
        due("text(4, 1)", x.text(4, 1), BAD);
        due("text(-1, -1)", x.text(-1, -1), BAD);
        due("text(3, 61)", x.text(3, 61), BAD);
        refused("text(3, -1)", x.text(3, -1), SIZE);
        due("count(10)", x.count(10), 0);
        due("text(3, 60)", x.text(3, 60), 60);
        due("put(3, 59, 65)", x.put(3, 59, 65), 1032);
        due("text(3, 60)", x.text(3, 60), 60);
        due("put(3, 59, 65)", x.put(3, 59, 65), 1032);
        due("text(0, 0)", x.text(0, 0), 0);
        due("count(10)", x.count(10), 2);

        begin(9);
        due("put(4, 0, 0)", x.put(4, 0, 0), BAD);
        refused("put(0, 0, 0)", x.put(0, 0, 0), NOTHING);
        x.text(0, 2);
        refused("put(0, 2, 0)", x.put(0, 2, 0), BEYOND);
        refused("put(0, -1, 0)", x.put(0, -1, 0), BEYOND);
        due("put(0, 1, 200)", x.put(0, 1, 200), 1032);
        due("put(0, 1, -129)", x.put(0, 1, -129), 1000 - 56);
        due("put(0, 1, 0x12380)", x.put(0, 1, 0x12380), 1127);
        due("put(0, 1, 0)", x.put(0, 1, 0), 1000 - 128);
        due("asked()", x.asked(), 0);
    }

    /** On an object of its own: all these texts together would take more calls than an object is made for. */
    static void faultIn(String s, int want) {
        x = new CrossedRings();
        write(1, s);
        due("fault of '" + s + "'", x.fault(1), want);
        due("toy of '" + s + "'", x.toy(1), want == NONE ? 14 : STATE);
    }

    static void toys() {
        begin(10);
        due("fault(4)", x.fault(4), BAD);
        due("fault(-1)", x.fault(-1), BAD);
        refused("fault(3)", x.fault(3), NOTHING);
        faultIn(PLAIN, NONE);
        faultIn(MIXED, NONE);
        faultIn("  " + PLAIN + "   ", NONE);
        faultIn("r9 s8 g7 w6 t5 b4 r9 s8 g7 w6 t5 b4 b0 b9", NONE);
        faultIn("", 0);
        faultIn("    ", 4);
        faultIn("b", 1);
        faultIn("b0", 2);
        faultIn(PLAIN.substring(0, 27), 27);
        faultIn(PLAIN.substring(0, 26), 26);
        faultIn(PLAIN.substring(0, 26) + "  ", 28);
        faultIn("b 0", 1);
        faultIn("0b", 0);
        faultIn("b0 x1", 3);
        faultIn("B0", 0);
        faultIn("b/", 1);
        faultIn("b:", 1);
        faultIn("b12", 2);
        faultIn("bb", 1);
        faultIn(PLAIN + "b1", 28);
        faultIn(PLAIN + "  b", 30);
        faultIn(PLAIN + " x", 29);
        faultIn(PLAIN + "\t", 28);
        faultIn("b0" + (char) 0, 2);

        begin(11);
        due("toy(4)", x.toy(4), BAD);
        refused("toy(0)", x.toy(0), NOTHING);
        x.text(0, 5);
        due("toy(0)", x.toy(0), STATE);
        due("finding()", x.finding(), NOTHING);
        due("count(0)", x.count(0), 0);
        write(1, MIXED);
        due("toy(1)", x.toy(1), 14);
        due("count(0)", x.count(0), 14);
        x.turn(2);
        x.turn(2);
        x.exchange(0, 5);
        x.keep(0);
        x.keep(1);
        due("toy(0)", x.toy(0), STATE);
        due("count(2)", x.count(2), 3);
        due("count(11)", x.count(11), 2);
        due("toy(1)", x.toy(1), 14);
        due("count(1)", x.count(1), 0);
        due("count(2)", x.count(2), 0);
        due("count(6)", x.count(6), 14);
        due("count(11)", x.count(11), 0);
        told("bead(10, 3)", x.bead(10, 3), 0);
        refused("on(0)", x.on(0), NOTHING);
        refused("on(1)", x.on(1), NOTHING);

        begin(12);
        due("bead(0, 0)", x.bead(0, 0), BAD);
        begin(12, MIXED);
        due("bead(14, 0)", x.bead(14, 0), BAD);
        due("bead(-1, 0)", x.bead(-1, 0), BAD);
        due("bead(0, 5)", x.bead(0, 5), BAD);
        due("bead(0, -1)", x.bead(0, -1), BAD);
        x.turn(3);
        x.turn(3);
        told("bead(10, 0)", x.bead(10, 0), 1);
        told("bead(10, 1)", x.bead(10, 1), 8);
        told("bead(10, 2)", x.bead(10, 2), 8);
        told("bead(10, 3)", x.bead(10, 3), 2);
        told("bead(10, 4)", x.bead(10, 4), 0);
        told("bead(12, 2)", x.bead(12, 2), 4);
        told("bead(12, 4)", x.bead(12, 4), 0);
        told("bead(13, 3)", x.bead(13, 3), 2);
        told("bead(13, 4)", x.bead(13, 4), 7);
        told("bead(1, 3)", x.bead(1, 3), 0);

        begin(13);
        due("cell(0, 0)", x.cell(0, 0), BAD);
        begin(13, MIXED);
        due("cell(14, 0)", x.cell(14, 0), BAD);
        due("cell(-1, 0)", x.cell(-1, 0), BAD);
        due("cell(0, 2)", x.cell(0, 2), BAD);
        due("cell(0, -1)", x.cell(0, -1), BAD);
        x.turn(2);
        told("cell(11, 0)", x.cell(11, 0), 4);
        told("cell(11, 1)", x.cell(11, 1), 5);
        told("cell(4, 0)", x.cell(4, 0), 10);
        told("cell(4, 1)", x.cell(4, 1), 9);
        told("cell(0, 0)", x.cell(0, 0), 13);

        marks();
    }

    static void marks() {
        begin(14);
        due("mark(0, 1)", x.mark(0, 1), BAD);
        begin(14, "r1 t2 w2 s3 g4 w0 g9 b0 b1 b1 t8 b2 g1 b7");
        due("mark(0, 0)", x.mark(0, 0), BAD);
        due("mark(0, 6)", x.mark(0, 6), BAD);
        due("mark(14, 1)", x.mark(14, 1), BAD);
        refused("mark(1, 4)", x.mark(1, 4), UNLIKE);
        refused("mark(3, 5)", x.mark(3, 5), UNLIKE);
        refused("mark(7, 1)", x.mark(7, 1), UNLIKE);
        due("mark(0, 3)", x.mark(0, 3), 1);
        due("mark(0, 5)", x.mark(0, 5), 0);
        due("mark(3, 3)", x.mark(3, 3), 0);
        due("mark(2, 2)", x.mark(2, 2), 4);
        due("mark(5, 2)", x.mark(5, 2), 0);
        due("mark(4, 4)", x.mark(4, 4), 1);
        due("mark(6, 4)", x.mark(6, 4), 1);
        x.exchange(0, 6);
        due("mark(12, 4)", x.mark(12, 4), 2);
        due("mark(0, 3)", x.mark(0, 3), 0);
        due("mark(4, 1)", x.mark(4, 1), 0);
        x.turn(2);
        due("mark(4, 1)", x.mark(4, 1), 9);
        due("mark(4, 4)", x.mark(4, 4), 0);
        due("mark(1, 1)", x.mark(1, 1), 0);
        due("mark(2, 2)", x.mark(2, 2), 3);
        for (int k = 0; k < 10; k++) x.turn(2);
        due("mark(4, 1)", x.mark(4, 1), 9);
        due("mark(2, 2)", x.mark(2, 2), 0);
        x.exchange(x.bead(0, 2) == 1 ? x.asked() : 0, 4);
        due("mark(0, 5)", x.mark(0, 5), 1);
        due("mark(0, 3)", x.mark(0, 3), 1);
        begin(14, MIXED);
        int[] wears = {3, 2, 1, 4, 3, 2, 1, 4, 3};
        for (int k = 0; k < wears.length; k++) {
            x.turn(0);
            due("mark(2, 2) behind " + (k + 1) + " turns", x.mark(2, 2), wears[k]);
        }
    }

    static void deeds() {
        begin(15);
        due("turn(9)", x.turn(9), STATE);
        begin(15, PLAIN);
        due("turn(4)", x.turn(4), BAD);
        due("turn(-1)", x.turn(-1), BAD);
        due("turn(0)", x.turn(0), 7);
        due("turn(1)", x.turn(1), 0);
        due("turn(2)", x.turn(2), 3);
        due("turn(3)", x.turn(3), 0);
        due("count(6)", x.count(6), 14);
        due("turn(1)", x.turn(1), 1);
        due("turn(3)", x.turn(3), 8);
        due("count(1)", x.count(1), 6);
        for (int k = 6; k < 40; k++) x.turn(0);
        due("count(2)", x.count(2), 40);
        due("turn(0)", x.turn(0), FULL);
        due("turn(4)", x.turn(4), BAD);
        begin(15, "b0b1b2b3r4b5b6b7b8b9b0b1b2b3");
        due("turn(0)", x.turn(0), STATE);
        due("turn(1)", x.turn(1), STATE);
        due("turn(2)", x.turn(2), STATE);
        due("turn(3)", x.turn(3), STATE);
        x.exchange(4, 0);
        due("turn(3)", x.turn(3), STATE);
        due("turn(0)", x.turn(0), 7);
        due("turn(2)", x.turn(2), 3);
        x.undo(1);
        for (int k = 1; k < 40; k++) x.exchange(8, 9);
        due("turn(2)", x.turn(2), STATE);
        due("turn(1)", x.turn(1), FULL);
        begin(15, "s0b1b2b3b4b5b6b7b8b9b0b1b2b3");
        due("turn(2)", x.turn(2), STATE);
        due("turn(0)", x.turn(0), 7);
        due("turn(2)", x.turn(2), 3);
        due("count(1)", x.count(1), 2);

        begin(16);
        due("exchange(9, 9)", x.exchange(9, 9), STATE);
        begin(16, MIXED);
        due("exchange(3, 3)", x.exchange(3, 3), BAD);
        due("exchange(14, 3)", x.exchange(14, 3), BAD);
        due("exchange(3, -1)", x.exchange(3, -1), BAD);
        due("exchange(1, 10)", x.exchange(1, 10), 10);
        due("exchange(1, 13)", x.exchange(1, 13), 13);
        told("cell(10, 0)", x.cell(10, 0), 1);
        told("bead(1, 3)", x.bead(1, 3), 0);
        due("count(1)", x.count(1), 0);
        due("count(2)", x.count(2), 2);
        for (int k = 2; k < 40; k++) x.exchange(0, 1);
        due("exchange(0, 1)", x.exchange(0, 1), FULL);
        due("exchange(0, 0)", x.exchange(0, 0), BAD);

        begin(17);
        due("undo(0)", x.undo(0), 0);
        due("undo(1)", x.undo(1), BAD);
        begin(17, MIXED);
        long fresh = x.digest();
        x.turn(2);
        x.exchange(0, 9);
        long two = x.digest();
        x.turn(1);
        x.turn(3);
        due("undo(-1)", x.undo(-1), BAD);
        due("undo(5)", x.undo(5), BAD);
        due("undo(4)", x.undo(4), 0);
        due("undo(2)", x.undo(2), 2);
        due("digest()", x.digest(), two);
        due("undo(0)", x.undo(0), 2);
        due("digest()", x.digest(), fresh);
        x.lots(20, 12345);
        due("undo(0)", x.undo(0), 20);
        due("digest()", x.digest(), fresh);

        begin(18);
        due("keep(3)", x.keep(3), BAD);
        due("keep(0)", x.keep(0), STATE);
        begin(18, MIXED);
        due("keep(-1)", x.keep(-1), BAD);
        due("keep(0)", x.keep(0), 0);
        x.turn(0);
        due("keep(2)", x.keep(2), 1);
        due("keep(0)", x.keep(0), 1);
        due("count(11)", x.count(11), 2);

        begin(19);
        due("on(3)", x.on(3), BAD);
        due("on(-1)", x.on(-1), BAD);
        refused("on(0)", x.on(0), NOTHING);
        begin(19, MIXED);
        refused("on(2)", x.on(2), NOTHING);
        x.turn(2);
        x.exchange(1, 2);
        due("keep(2)", x.keep(2), 2);
        long then = x.digest();
        x.undo(0);
        x.turn(3);
        due("on(2)", x.on(2), 2);
        due("digest()", x.digest(), then);
        x.turn(0);
        due("on(2)", x.on(2), 2);
        due("digest()", x.digest(), then);
        due("undo(1)", x.undo(1), 1);
        told("cell(1, 0)", x.cell(1, 0), 1);
        due("on(2)", x.on(2), 2);
        due("digest()", x.digest(), then);
    }

    static void aside() {
        begin(20);
        due("shows(0, 0, 0, 0)", x.shows(0, 0, 0, 0), BAD);
        begin(20, "b1 t2 w9 s3 g4 r5 t9 b0 w7 b6 t8 b2 g1 b7");
        due("shows(14, 0, 0, 0)", x.shows(14, 0, 0, 0), BAD);
        due("shows(0, 14, 0, 0)", x.shows(0, 14, 0, 0), BAD);
        due("shows(0, 0, 100, 0)", x.shows(0, 0, 100, 0), BAD);
        due("shows(0, 0, 0, 100)", x.shows(0, 0, 0, 100), BAD);
        due("shows(0, 0, -1, 0)", x.shows(0, 0, -1, 0), BAD);
        due("shows(0, 0, 0, -1)", x.shows(0, 0, 0, -1), BAD);
        due("shows(1, 0, 0, 0)", x.shows(1, 0, 0, 0), 2);
        due("shows(0, 0, 99, 99)", x.shows(0, 0, 99, 99), 1);
        due("shows(1, 0, 99, 99)", x.shows(1, 0, 99, 99), 1);
        due("shows(6, 4, 1, 0)", x.shows(6, 4, 1, 0), 0);
        due("shows(2, 0, 50, 3)", x.shows(2, 0, 50, 3), 9);
        due("shows(2, 0, 50, 4)", x.shows(2, 0, 50, 4), 8);
        due("shows(2, 0, 50, 35)", x.shows(2, 0, 50, 35), 1);
        due("shows(2, 0, 50, 99)", x.shows(2, 0, 50, 99), 0);
        due("shows(3, 4, 7, 9)", x.shows(3, 4, 7, 9), 3);
        due("shows(4, 4, 7, 9)", x.shows(4, 4, 7, 9), 0);
        due("shows(4, 0, 7, 9)", x.shows(4, 0, 7, 9), 0);
        due("shows(4, 8, 7, 9)", x.shows(4, 8, 7, 9), 1);
        due("shows(5, 4, 7, 9)", x.shows(5, 4, 7, 9), 5);

        begin(21);
        due("run(9, 9)", x.run(9, 9), STATE);
        begin(21, PLAIN);
        due("run(6, 0)", x.run(6, 0), BAD);
        due("run(0, -1)", x.run(0, -1), BAD);
        refused("run(0, 1)", x.run(0, 1), NOTHING);
        x.row(0, 21);
        x.lay(0, 0, 7);
        refused("run(0, 1)", x.run(0, 1), SIZE);
        fill(0, 0, 4);
        refused("run(0, 1)", x.run(0, 1), UNLIKE);
        fill(0, -1);
        refused("run(0, 1)", x.run(0, 1), UNLIKE);
        due("count(9)", x.count(9), 1);
        fill(0, 2);
        due("run(0, 0)", x.run(0, 0), 1);
        holds(0, 3, 1, 2, 3, 0, 5, 6, 7, 0, 8, 9, 4, 1, 2);
        due("count(1)", x.count(1), 0);
        x.row(0, 0);
        due("run(0, 1)", x.run(0, 1), 0);
        holds(1, 0, 1, 2, 3, 4, 5, 6, 7, 8, 9, 0, 1, 2, 3);
        x.row(0, 20);
        due("run(0, 1)", x.run(0, 1), 20);
        holds(1, 4, 5, 6, 7, 0, 1, 2, 3, 8, 9, 0, 1, 2, 3);
        begin(21, "b0b1b2r3b4b5b6b7b8b9b0b1b2b3");
        fill(0, 0, 0, 1);
        due("run(0, 1)", x.run(0, 1), 1);
        holds(1, 7, 0, 1, 2, 3, 4, 5, 6, 8, 9, 0, 1, 2, 3);

        begin(22);
        due("rounds(9)", x.rounds(9), STATE);
        begin(22, PLAIN);
        due("rounds(6)", x.rounds(6), BAD);
        refused("rounds(0)", x.rounds(0), NOTHING);
        x.row(0, 0);
        refused("rounds(0)", x.rounds(0), SIZE);
        x.row(0, 21);
        refused("rounds(0)", x.rounds(0), SIZE);
        fill(0, 0, 4);
        refused("rounds(0)", x.rounds(0), UNLIKE);
        fill(0, 0, 1);
        due("rounds(0)", x.rounds(0), 1);
        fill(0, 3);
        due("rounds(0)", x.rounds(0), 8);
        fill(0, 0, 0, 2, 2);
        due("rounds(0)", x.rounds(0), roundsByHand(0, 0, 2, 2));
        x.exchange(0, 9);
        fill(0, 0, 1);
        due("rounds(0)", x.rounds(0), 1);
        begin(22, "b0b1b2s3b4b5b6b7b8b9b0b1b2b3");
        fill(0, 2, 3, 0);
        due("rounds(0)", x.rounds(0), NONE);
        fill(0, 2, 3);
        due("rounds(0)", x.rounds(0), 1);
    }

    /** Follows numbers 0 .. 13 through the rings, apart from the class. */
    static int roundsByHand(int... moves) {
        int[] lies = new int[14];
        for (int i = 0; i < 14; i++) lies[i] = i;
        int[][] rings = {{0, 1, 2, 3, 4, 5, 6, 7}, {0, 8, 9, 10, 4, 11, 12, 13}};
        for (int round = 1; round <= 200; round++) {
            boolean home = true;
            for (int move : moves) {
                int[] ring = rings[move / 2];
                int[] was = lies.clone();
                for (int k = 0; k < 8; k++) lies[ring[(k + (move % 2 == 0 ? 1 : 7)) % 8]] = was[ring[k]];
            }
            for (int i = 0; i < 14; i++) home &= lies[i] == i;
            if (home) return round;
        }
        return NONE;
    }

    static void fewestMoves() {
        begin(23);
        due("fewest(99, 0, 0)", x.fewest(99, 0, 0), STATE);
        begin(23, PLAIN);
        due("fewest(14, 0, 0)", x.fewest(14, 0, 0), BAD);
        due("fewest(0, 10, 0)", x.fewest(0, 10, 0), BAD);
        due("fewest(0, -1, 0)", x.fewest(0, -1, 0), BAD);
        due("fewest(0, 0, 6)", x.fewest(0, 0, 6), BAD);
        due("count(9)", x.count(9), 0);
        due("fewest(1, 1, 0)", x.fewest(1, 1, 0), 0);
        holds(0);
        due("fewest(1, 3, 0)", x.fewest(1, 3, 0), 2);
        holds(0, 1, 1);
        due("fewest(1, 9, 0)", x.fewest(1, 9, 0), 3);
        holds(0, 3, 3, 0);
        due("count(1)", x.count(1), 0);
        begin(23, "b0b0b0b0r0b0b0b0b0b0b0b0b0b1");
        fill(3, 5);
        due("fewest(1, 1, 3)", x.fewest(1, 1, 3), NONE);
        holds(3, 5);
        begin(23, "b0b0b0b0b0b0b0b0b0b0b0b0b0b0");
        due("fewest(1, 1, 3)", x.fewest(1, 1, 3), NONE);
        begin(23, "t0b1b2b3b4b5b6b7b8b9b0b1b2b3");
        due("fewest(9, 2, 3)", x.fewest(9, 2, 3), 2);
        holds(3, 2, 2);
        begin(23, "b0b0b0b0b0b0b0b0b0b1b0b0b0b0");
        due("fewest(3, 1, 3)", x.fewest(3, 1, 3), 3);
        holds(3, 2, 2, 1);
        due("fewest(2, 1, 3)", x.fewest(2, 1, 3), 4);
        holds(3, 2, 2, 1, 1);
        begin(23, "s0b0b0b0b0b0b0b0b0b1b0b0b0b0");
        due("fewest(2, 1, 3)", x.fewest(2, 1, 3), 5);
        holds(3, 0, 2, 2, 1, 1);
    }

    static void pictureOf(int r, int cell, int colour) {
        x.row(r, 14);
        for (int c = 0; c < 14; c++) x.lay(r, c, c == cell ? colour : -1);
    }

    static void guesses() {
        begin(24);
        due("picture(9, 9)", x.picture(9, 9), STATE);
        begin(24, PLAIN);
        due("picture(6, 0)", x.picture(6, 0), BAD);
        due("picture(0, 6)", x.picture(0, 6), BAD);
        refused("picture(0, 1)", x.picture(0, 1), NOTHING);
        x.row(0, 13);
        x.lay(0, 0, 77);
        refused("picture(0, 1)", x.picture(0, 1), SIZE);
        x.row(0, 15);
        refused("picture(0, 1)", x.picture(0, 1), SIZE);
        pictureOf(0, 13, 10);
        refused("picture(0, 1)", x.picture(0, 1), UNLIKE);
        pictureOf(0, 0, -2);
        refused("picture(0, 1)", x.picture(0, 1), UNLIKE);
        due("count(9)", x.count(9), 1);
        pictureOf(0, 0, -1);
        due("picture(0, 1)", x.picture(0, 1), 0);
        holds(1);
        fill(0, 3, 0, 1, 2, 3, 4, 5, 6, 7, 8, 9, 0, 1, 2);
        due("picture(0, 1)", x.picture(0, 1), NONE);
        holds(1);
        fill(0, 7, 0, 1, 2, 3, 4, 5, 6, 8, 9, 0, 1, 2, 3);
        due("picture(0, 0)", x.picture(0, 0), 1);
        holds(0, 0);
        fill(2, 2, 0, 0);
        fill(2, 2, 0, 2);
        due("run(2, 3)", x.run(2, 3), 3);
        due("picture(3, 4)", x.picture(3, 4), 3);
        holds(4, 2, 0, 2);

        begin(25);
        due("which(9)", x.which(9), STATE);
        begin(25, PLAIN);
        due("which(-1)", x.which(-1), BAD);
        refused("which(0)", x.which(0), NOTHING);
        x.row(0, 40);
        refused("which(0)", x.which(0), SIZE);
        pictureOf(0, 13, 10);
        refused("which(0)", x.which(0), UNLIKE);
        pictureOf(0, 0, -1);
        due("which(0)", x.which(0), 15);
        pictureOf(0, 0, 0);
        due("which(0)", x.which(0), 0);
        pictureOf(0, 0, 3);
        due("which(0)", x.which(0), 4);
        pictureOf(0, 2, 2);
        due("which(0)", x.which(0), 12);
        begin(25, "b0b1b2b3s4b5b6b7b8b9b0b1b2b3");
        pictureOf(0, 0, -1);
        due("which(0)", x.which(0), 3);

        begin(26);
        x.row(0, 0);
        due("kinds(0, 0)", x.kinds(0, 0), BAD);
        begin(26, MIXED);
        due("kinds(14, 0)", x.kinds(14, 0), BAD);
        due("kinds(0, 6)", x.kinds(0, 6), BAD);
        refused("kinds(0, 0)", x.kinds(0, 0), NOTHING);
        fill(0, 9, 9, 9);
        refused("kinds(0, 0)", x.kinds(0, 0), SIZE);
        x.row(0, 18);
        refused("kinds(0, 0)", x.kinds(0, 0), SIZE);
        fill(0, 0, 0, 4, 0);
        refused("kinds(0, 0)", x.kinds(0, 0), UNLIKE);
        fill(0, 0, 10);
        refused("kinds(0, 0)", x.kinds(0, 0), UNLIKE);
        fill(0, 0, -1);
        refused("kinds(0, 0)", x.kinds(0, 0), UNLIKE);
        x.row(0, 0);
        due("kinds(0, 0)", x.kinds(0, 0), 63);
        fill(0, 2, 2);
        due("kinds(0, 0)", x.kinds(0, 0), 1 << 1 | 1 << 4);
        fill(0, 2, 1);
        due("kinds(0, 0)", x.kinds(0, 0), 1 << 0 | 1 << 2);
        fill(0, 0, 1);
        due("kinds(0, 0)", x.kinds(0, 0), 63);
        fill(0, 0, 5);
        due("kinds(4, 0)", x.kinds(4, 0), 0);
        fill(0, 0, 4);
        due("kinds(4, 0)", x.kinds(4, 0), 31);
        fill(0, 0, 3, 1, 3, 0, 3, 1, 2);
        due("kinds(3, 0)", x.kinds(3, 0), 1 << 2);
        fill(0, 0, 0);
        due("kinds(3, 0)", x.kinds(3, 0), 1 << 4);
        x.row(0, 16);
        due("kinds(3, 0)", x.kinds(3, 0), 0);
        told("bead(3, 0)", x.bead(3, 0), 0);

        begin(27);
        x.row(0, 0);
        due("colours(0, 0)", x.colours(0, 0), BAD);
        begin(27, MIXED);
        due("colours(-1, 0)", x.colours(-1, 0), BAD);
        due("colours(0, -1)", x.colours(0, -1), BAD);
        refused("colours(0, 0)", x.colours(0, 0), NOTHING);
        x.row(0, 1);
        refused("colours(0, 0)", x.colours(0, 0), SIZE);
        fill(0, 0, 10);
        refused("colours(0, 0)", x.colours(0, 0), UNLIKE);
        x.row(0, 0);
        due("colours(0, 0)", x.colours(0, 0), 1023);
        fill(0, 2, 0);
        due("colours(0, 0)", x.colours(0, 0), 1);
        due("colours(10, 0)", x.colours(10, 0), 1 << 9);
        due("colours(12, 0)", x.colours(12, 0), 1 << 9);
        fill(0, 3, 0, 3, 0);
        due("colours(12, 0)", x.colours(12, 0), 1 << 9);
        fill(0, 3, 0, 3, 1);
        due("colours(12, 0)", x.colours(12, 0), 0);
        fill(0, 3, 1, 3, 0);
        due("colours(12, 0)", x.colours(12, 0), 1);
        fill(0, 0, 0, 0, 0, 0, 0, 0, 0);
        due("colours(2, 0)", x.colours(2, 0), 1);
        fill(0, 1, 0, 1, 0, 2, 0, 2, 0);
        due("colours(2, 0)", x.colours(2, 0), 1);
        x.turn(0);
        fill(0, 0, 0, 0, 0, 0, 0);
        due("colours(2, 0)", x.colours(2, 0), 1);
        fill(0, 0, 1, 0, 0);
        due("colours(2, 0)", x.colours(2, 0), 0);
        fill(0, 0, 1, 0, 1, 0, 0);
        due("colours(2, 0)", x.colours(2, 0), 2);

        begin(28);
        x.row(0, 0);
        due("next(0, 0)", x.next(0, 0), BAD);
        begin(28, MIXED);
        due("next(0, 6)", x.next(0, 6), BAD);
        refused("next(0, 0)", x.next(0, 0), NOTHING);
        x.row(0, 17);
        refused("next(0, 0)", x.next(0, 0), SIZE);
        fill(0, 4, 0);
        refused("next(0, 0)", x.next(0, 0), UNLIKE);
        due("asked()", x.asked(), 0);
        fill(0, 0, 9);
        x.cell(9, 0);
        due("next(0, 0)", x.next(0, 0), NONE);
        due("asked()", x.asked(), 9);
        x.row(0, 0);
        due("next(0, 0)", x.next(0, 0), 2);
        due("asked()", x.asked(), 2);
        due("next(1, 0)", x.next(1, 0), 1);
        due("asked()", x.asked(), 5);
        due("next(2, 0)", x.next(2, 0), 0);
        due("asked()", x.asked(), 6);
        fill(0, 2, 2);
        due("next(0, 0)", x.next(0, 0), 0);
        due("asked()", x.asked(), 2);
        due("count(1)", x.count(1), 0);

        begin(29);
        due("duel(9)", x.duel(9), STATE);
        begin(29, PLAIN);
        due("duel(4)", x.duel(4), BAD);
        due("duel(-1)", x.duel(-1), BAD);
        told("duel(0)", x.duel(0), 1);
        begin(29, "b0b0b0b0b0b0b0b0b9b0b0b0b0b0");
        told("duel(0)", x.duel(0), -9);
        told("duel(1)", x.duel(1), -9);
        told("duel(2)", x.duel(2), -9);
        begin(29, "b9b0b0b0b0b0b0b0b0b0b0b0b0b0");
        told("duel(0)", x.duel(0), 0);
        told("duel(1)", x.duel(1), 0);
        begin(29, "r9b0b0b0b0b0b0b0b0b0b0b0b0b0");
        told("duel(1)", x.duel(1), 0);
        begin(29, "b0b0b0r9b0b0b0b0b0b0b0b0b9b0");
        told("duel(1)", x.duel(1), 0);
        due("count(2)", x.count(2), 0);
    }

    static void chances() {
        begin(30);
        due("odds(9, 0, 0, 0)", x.odds(9, 0, 0, 0), STATE);
        begin(30, PLAIN);
        due("odds(6, 0, 0, 0)", x.odds(6, 0, 0, 0), BAD);
        due("odds(0, 14, 0, 0)", x.odds(0, 14, 0, 0), BAD);
        due("odds(0, 0, 10, 0)", x.odds(0, 0, 10, 0), BAD);
        due("odds(0, 0, -1, 0)", x.odds(0, 0, -1, 0), BAD);
        due("odds(0, 0, 0, 13)", x.odds(0, 0, 0, 13), BAD);
        due("odds(0, 0, 0, -1)", x.odds(0, 0, 0, -1), BAD);
        refused("odds(0, 0, 0, 0)", x.odds(0, 0, 0, 0), NOTHING);
        x.row(0, 0);
        refused("odds(0, 0, 0, 0)", x.odds(0, 0, 0, 0), SIZE);
        x.row(0, 9);
        x.lay(0, 0, 9);
        refused("odds(0, 0, 0, 0)", x.odds(0, 0, 0, 0), SIZE);
        fill(0, 1, 4);
        refused("odds(0, 0, 0, 0)", x.odds(0, 0, 0, 0), UNLIKE);
        due("upper()", x.upper(), 0);
        due("lower()", x.lower(), 1);
        fill(0, 1);
        shares("odds(0, 0, 1, 3)", x.odds(0, 0, 1, 3), 3, 4);
        shares("odds(0, 0, 0, 3)", x.odds(0, 0, 0, 3), 1, 4);
        shares("odds(0, 0, 5, 3)", x.odds(0, 0, 5, 3), 0, 1);
        shares("odds(0, 0, 1, 0)", x.odds(0, 0, 1, 0), 1, 1);
        shares("odds(0, 0, 1, 12)", x.odds(0, 0, 1, 12), 0, 1);
        fill(0, 0, 0, 0, 0, 0, 0, 0, 0);
        shares("odds(0, 0, 1, 11)", x.odds(0, 0, 1, 11), 11, 429981696L / 8);
        fill(0, 0, 1);
        shares("odds(0, 0, 0, 5)", x.odds(0, 0, 0, 5), 37, 72);
        begin(30, "b0b1b2r3b4b5b6b7b8b9b0b1b2b3");
        fill(0, 0, 0);
        shares("odds(0, 0, 7, 3)", x.odds(0, 0, 7, 3), 15, 16);
        fill(0, 0, 0, 1);
        shares("odds(0, 0, 7, 3)", x.odds(0, 0, 7, 3), 15, 16);
        shares("odds(0, 0, 7, 1)", x.odds(0, 0, 7, 1), 143, 144);
        fill(0, 0, 0);
        shares("odds(0, 0, 7, 3)", x.odds(0, 0, 7, 3), 15, 16);
        due("count(2)", x.count(2), 0);
        due("odds(0, 99, 7, 3)", x.odds(0, 99, 7, 3), BAD);
        due("lower()", x.lower(), 16);
        begin(30, "s0b1b2b3b4b5b6b7b8b9b0b1b2b3");
        fill(0, 2, 0);
        shares("odds(0, 0, 7, 3)", x.odds(0, 0, 7, 3), 3, 4);
        shares("odds(0, 0, 0, 1)", x.odds(0, 0, 0, 1), 1, 12);

        begin(31);
        due("mid(9, 0, 0)", x.mid(9, 0, 0), STATE);
        begin(31, PLAIN);
        due("mid(6, 0, 0)", x.mid(6, 0, 0), BAD);
        due("mid(0, 14, 0)", x.mid(0, 14, 0), BAD);
        due("mid(0, 0, 13)", x.mid(0, 0, 13), BAD);
        refused("mid(0, 0, 0)", x.mid(0, 0, 0), NOTHING);
        x.row(0, 9);
        refused("mid(0, 0, 0)", x.mid(0, 0, 0), SIZE);
        fill(0, -1);
        refused("mid(0, 0, 0)", x.mid(0, 0, 0), UNLIKE);
        fill(0, 0);
        shares("mid(0, 0, 4)", x.mid(0, 0, 4), 14, 3);
        shares("mid(0, 0, 12)", x.mid(0, 0, 12), 0, 1);
        shares("mid(0, 3, 0)", x.mid(0, 3, 0), 2, 1);
        fill(0, 2, 2);
        shares("mid(0, 0, 6)", x.mid(0, 0, 6), 2, 1);

        begin(32);
        due("lots(0, 0)", x.lots(0, 0), STATE);
        begin(32, PLAIN);
        due("lots(0, 1)", x.lots(0, 1), BAD);
        due("lots(21, 1)", x.lots(21, 1), BAD);
        due("lots(1, 0)", x.lots(1, 0), BAD);
        due("lots(1, HIGH)", x.lots(1, HIGH), BAD);
        // 48271: by 8 is 6033, modulo 8 is 1; modulo 4 is 3: ring 1 back.
        due("lots(1, 1)", x.lots(1, 1), 8);
        due("count(1)", x.count(1), 1);
        x.undo(0);
        // Ten times it is 482710: by 8 is 60338, modulo 8 is 2; modulo 4 is 2: ring 1 on.
        due("lots(1, 10)", x.lots(1, 10), 3);
        x.undo(0);
        // -48271 modulo 2147483647 is 2147435376: by 8 is 268429422, modulo 8 is 6; modulo 4 is 0: ring 0 on.
        due("lots(1, HIGH - 1)", x.lots(1, HIGH - 1), 7);
        lotsThatExchange();
        x.undo(0);
        due("lots(20, 4)", x.lots(20, 4) >= 0 ? 1 : 0, 1);
        due("lots(20, 5)", x.lots(20, 5) >= 0 ? 1 : 0, 1);
        due("lots(1, 5)", x.lots(1, 5), FULL);
        due("lots(0, 5)", x.lots(0, 5), BAD);
        x.undo(30);
        due("lots(11, 5)", x.lots(11, 5), FULL);
        due("count(2)", x.count(2), 30);
        due("lots(10, 5)", x.lots(10, 5) >= 0 ? 1 : 0, 1);
        begin(32, "b0b1b2b3r4b5b6b7b8b9b0b1b2b3");
        due("lots(1, 1)", x.lots(1, 1), 0);
        due("count(1)", x.count(1), 0);
        due("count(2)", x.count(2), 1);
        due("undo(0)", x.undo(0), 1);
        due("count(6)", x.count(6), 14);
    }

    /** The first seeds whose lot exchanges unlike cells, and alike ones. */
    static void lotsThatExchange() {
        boolean unlike = false;
        boolean alike = false;
        for (int seed = 1; seed < 100000 && !(unlike && alike); seed++) {
            int lot = (int) (seed * 48271L % 2147483647L);
            int c = lot % 14;
            int d = lot / 64 % 14;
            if (lot / 8 % 8 != 7 || (c == d ? alike : unlike)) continue;
            if (c == d) alike = true; else unlike = true;
            x.undo(0);
            x.lots(1, seed);
            told("cell(c, 0)", x.cell(c, 0), d);
            told("cell(d, 0)", x.cell(d, 0), c);
            due("count(1)", x.count(1), 0);
            due("count(2)", x.count(2), 1);
        }
        due("seeds of both sorts", unlike && alike ? 1 : 0, 1);
    }

    static void tellings() {
        begin(33, MIXED);
        due("asked()", x.asked(), 0);
        fill(0, 0);
        x.cell(7, 0);
        x.turn(0);
        x.shows(0, 0, 0, 0);
        x.fewest(0, 9, 1);
        x.which(0);
        x.cell(14, 0);
        x.count(0);
        x.digest();
        x.mid(0, 0, 5);
        due("asked()", x.asked(), 7);

        begin(34, PLAIN);
        fill(0, 0);
        x.odds(0, 0, 7, 7);
        due("upper()", x.upper(), 5);
        x.odds(0, 0, 70, 7);
        due("upper()", x.upper(), 5);
        x.mid(0, 0, 0);
        due("upper()", x.upper(), 7);

        begin(35, PLAIN);
        due("lower()", x.lower(), 1);
        fill(0, 0);
        x.odds(0, 0, 7, 7);
        due("lower()", x.lower(), 12);
        x.tear(0);
        x.odds(0, 0, 7, 7);
        due("lower()", x.lower(), 12);
        x.toy(0);
        due("lower()", x.lower(), 12);

        begin(36);
        due("count(-1)", x.count(-1), BAD);
        due("count(12)", x.count(12), BAD);
        begin(36, "r1 t2 w9 s3 g4 b5 t9 b0 w7 b6 t8 r2 g1 b7");
        int[] due = {14, 0, 0, 2, 1 + 2 + 9 + 3 + 5 + 9, 1 + 7 + 6 + 8 + 2 + 1 + 7, 14, 5, 3, 0, 1, 0};
        for (int what = 0; what < 12; what++) due("count(" + what + ")", x.count(what), due[what]);
        x.exchange(0, 4);
        due("count(3)", x.count(3), 3);
        due("count(6)", x.count(6), 12);
        x.exchange(4, 5);
        due("count(3)", x.count(3), 0);
        x.turn(2);
        x.keep(0);
        x.row(4, 0);
        due("count(1)", x.count(1), 1);
        due("count(2)", x.count(2), 3);
        due("count(9)", x.count(9), 1);
        due("count(11)", x.count(11), 1);

        begin(37);
        due("finding()", x.finding(), 0);
        x.row(0, -1);
        due("finding()", x.finding(), SIZE);
        x.row(9, -1);
        x.turn(0);
        due("finding()", x.finding(), SIZE);
        x.tear(0);
        due("finding()", x.finding(), NOTHING);
        x.row(0, 0);
        due("finding()", x.finding(), NOTHING);
        x.mean(0);
        due("finding()", x.finding(), NOUGHT);

        begin(38);
        due("findings(0)", x.findings(0), BAD);
        due("findings(6)", x.findings(6), BAD);
        x.row(0, -1);
        x.row(0, -1);
        x.at(0, 0);
        x.row(0, 0);
        x.at(0, 0);
        x.mean(0);
        int[] times = {0, 1, 1, 0, 1, 2};
        for (int f = 1; f <= 5; f++) due("findings(" + f + ")", x.findings(f), times[f]);

        begin(39);
        long h = 17;
        for (int k = 0; k < 12; k++) h = 31 * h;
        for (int k = 0; k < 3 + 6 + 4; k++) h = 31 * h - 1;
        due("digest()", x.digest(), h);
        long before = x.digest();
        x.row(0, 0);
        h = 17;
        for (int k = 0; k < 12; k++) h = 31 * h + (k == 9 ? 1 : 0);
        for (int k = 0; k < 3; k++) h = 31 * h - 1;
        h = 31 * h;
        for (int k = 0; k < 5 + 4; k++) h = 31 * h - 1;
        due("digest()", x.digest(), h);
        x.tear(0);
        due("digest()", x.digest(), before);
        x.mean(0);
        due("digest()", x.digest(), before);
        wholeDigest();
    }

    static void wholeDigest() {
        begin(39, MIXED);
        x.turn(2);
        x.keep(1);
        x.exchange(0, 1);
        fill(2, 5, -6);
        x.put(0, 2, -7);
        long h = 17;
        for (int what = 0; what < 12; what++) h = 31 * h + x.count(what);
        for (int i = 0; i < 14; i++) {
            for (int what = 0; what < 5; what++) {
                x.bead(i, what);
                h = 31 * h + x.asked();
            }
        }
        h = (h * 31 - 1) * 31 + 1;
        h = h * 31 - 1;
        h = (h * 31 - 1) * 31 - 1;
        h = ((h * 31 + 2) * 31 + 5) * 31 - 6;
        for (int r = 3; r < 6; r++) h = h * 31 - 1;
        h = h * 31 + MIXED.length();
        for (int i = 0; i < MIXED.length(); i++) h = h * 31 + (i == 2 ? -7 : MIXED.charAt(i));
        for (int t = 1; t < 4; t++) h = h * 31 - 1;
        due("digest()", x.digest(), h);
    }
}
