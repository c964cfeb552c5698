import java.util.Arrays;

/** A toy of fourteen beads in two rings that share two cells; the promises stand in DOC.md. */
public final class CrossedRings {
    public static final int BAD = -1, FULL = -2, FINDING = -3, STATE = -4, SPENT = -6, NONE = -9;

    private static final int NOTHING = 1, BEYOND = 2, UNLIKE = 3, NOUGHT = 4, SIZE = 5;
    private static final int FINDING_KINDS = 5;

    /** What a private check answers when it has nothing to refuse: no refusal is 0. */
    private static final int FINE = 0;

    private static final int ROWS = 6, ROW_MOST = 40, TEXTS = 4, TEXT_MOST = 60, KEPT = 3;
    private static final int BEADS = 14, COLOURS = 10, KINDS = 6, MOVES = 4, RING_SIZE = 8, DEEDS_MOST = 40;
    private static final int BEAD_SAYS = 5, COUNTS = 12;
    private static final int PLAIN = 0, TINTED = 1, WORN = 2, STUCK = 3, GLASS = 4, ROOT = 5;
    private static final int BLANK = 32, FIGURE_NOUGHT = 48;

    private static final int RUN_MOST = 20, ROUNDS_MOST = 200, FEWEST_MOST = 5, PAIRS_MOST = 8;
    private static final int SLIPS_MOST = 8, SLIP_PARTS = 12, DUEL_MOST = 3, LOTS_MOST = 20, TOLD_MOST = 99;
    private static final int ANY = -1;
    private static final long LOT_FACTOR = 48271L, LOT_MODULUS = 2147483647L;

    /** Far above what any lead of one ring over the other can be, so that no play is cut off by it. */
    private static final int DUEL_BOUND = 1000;

    /** A deed of lots that changed nothing; exchanges are noted from MOVES on, as 14 times a cell and the other. */
    private static final int NO_CHANGE = -1;

    /** The cells of ring 0, then those of ring 1, each as it goes on. */
    private static final int[] RING_CELLS = {0, 1, 2, 3, 4, 5, 6, 7, 0, 8, 9, 10, 4, 11, 12, 13};

    private final Row[] rows = new Row[ROWS];
    private final Row[] texts = new Row[TEXTS];
    private final Toy live = new Toy();
    private final Toy aside = new Toy();
    private final Toy[] kept = new Toy[KEPT];
    private final int[] findingTimes = new int[FINDING_KINDS + 1];
    private final int[] wanted = new int[BEADS];
    private final int[] path = new int[FEWEST_MOST];
    private final int[] parts = new int[COLOURS + 1];
    private int lastFinding = 0;
    private int lastAsked = 0;
    private long lastUpper = 0L;
    private long lastLower = 1L;

    public CrossedRings() {
        for (int r = 0; r < ROWS; r++) {
            rows[r] = new Row(ROW_MOST, 0);
        }
        for (int t = 0; t < TEXTS; t++) {
            texts[t] = new Row(TEXT_MOST, BLANK);
        }
        for (int k = 0; k < KEPT; k++) {
            kept[k] = new Toy();
        }
    }

    // ---- 1 rows, texts, toys

    public int row(int r, int n) {
        if (!isRow(r) || n > ROW_MOST) {
            return BAD;
        }
        if (n < 0) {
            return found(SIZE);
        }
        rows[r].begin(n);
        return n;
    }

    public int lay(int r, int i, int v) {
        if (!isRow(r)) {
            return BAD;
        }
        int refusal = placeRefused(rows[r], i);
        if (refusal != FINE) {
            return refusal;
        }
        int before = rows[r].get(i);
        rows[r].set(i, v);
        return told(before);
    }

    public int at(int r, int i) {
        if (!isRow(r)) {
            return BAD;
        }
        int refusal = placeRefused(rows[r], i);
        return refusal != FINE ? refusal : told(rows[r].get(i));
    }

    public int tear(int r) {
        if (!isRow(r)) {
            return BAD;
        }
        if (rows[r].isMissing()) {
            return found(NOTHING);
        }
        rows[r].size = Row.MISSING;
        return 1;
    }

    public int copy(int r, int i, int to, int j, int n) {
        if (!isRow(r) || !isRow(to)) {
            return BAD;
        }
        if (n < 0) {
            return found(SIZE);
        }
        if (rows[r].isMissing() || rows[to].isMissing()) {
            return found(NOTHING);
        }
        if (!rows[r].hasRun(i, n) || !rows[to].hasRun(j, n)) {
            return found(BEYOND);
        }
        System.arraycopy(rows[r].places, i, rows[to].places, j, n);
        return 1;
    }

    public int mean(int r) {
        if (!isRow(r)) {
            return BAD;
        }
        if (rows[r].isMissing()) {
            return found(NOTHING);
        }
        if (rows[r].size == 0) {
            return found(NOUGHT);
        }
        return told((int) (rows[r].sum() / rows[r].size));
    }

    public int text(int t, int n) {
        if (!isText(t) || n > TEXT_MOST) {
            return BAD;
        }
        if (n < 0) {
            return found(SIZE);
        }
        texts[t].begin(n);
        return n;
    }

    public int put(int t, int i, int v) {
        if (!isText(t)) {
            return BAD;
        }
        int refusal = placeRefused(texts[t], i);
        if (refusal != FINE) {
            return refusal;
        }
        int before = texts[t].get(i);
        texts[t].set(i, (byte) v);
        return before + 1000;
    }

    public int fault(int t) {
        if (!isText(t)) {
            return BAD;
        }
        return texts[t].isMissing() ? found(NOTHING) : firstFault(texts[t]);
    }

    public int toy(int t) {
        if (!isText(t)) {
            return BAD;
        }
        if (texts[t].isMissing()) {
            return found(NOTHING);
        }
        if (firstFault(texts[t]) != NONE) {
            return STATE;
        }
        live.begin();
        readBeads(texts[t]);
        for (int k = 0; k < KEPT; k++) {
            kept[k].there = false;
        }
        return BEADS;
    }

    public int bead(int i, int what) {
        if (!isBead(i) || what < 0 || what >= BEAD_SAYS) {
            return BAD;
        }
        return told(beadSays(i, what));
    }

    public int cell(int c, int what) {
        if (!live.there || !isCell(c) || what < 0 || what > 1) {
            return BAD;
        }
        return told(what == 0 ? live.beadIn(c) : live.showIn(c));
    }

    public int mark(int i, int kind) {
        if (!isBead(i) || kind <= PLAIN || kind >= KINDS) {
            return BAD;
        }
        if (!isOfKind(live.kind[i], kind)) {
            return found(UNLIKE);
        }
        int place = live.place[i];
        switch (kind) {
            case TINTED:
                return (COLOURS - live.borne[i] % COLOURS) % COLOURS;
            case WORN:
                return live.showOf(i) == 0 ? 0 : 4 - live.turns % 4;
            case STUCK:
                return isCrossing(place) ? 1 : 0;
            case GLASS:
                return live.glassInCrossings();
            default:
                return place == 4 ? 1 : 0;
        }
    }

    // ---- 2 deeds

    public int turn(int move) {
        if (!live.there) {
            return STATE;
        }
        if (!isMove(move)) {
            return BAD;
        }
        if (live.bars(move)) {
            return STATE;
        }
        if (live.deeds >= DEEDS_MOST) {
            return FULL;
        }
        live.doDeed(move);
        return live.showIn(0);
    }

    public int exchange(int c, int d) {
        if (!live.there) {
            return STATE;
        }
        if (!isCell(c) || !isCell(d) || c == d) {
            return BAD;
        }
        if (live.deeds >= DEEDS_MOST) {
            return FULL;
        }
        live.doDeed(exchangeDeed(c, d));
        return live.beadIn(c);
    }

    public int undo(int n) {
        if (n < 0 || n > live.deeds) {
            return BAD;
        }
        int many = live.deeds - n;
        for (int k = 0; k < many; k++) {
            live.undoLast();
        }
        return many;
    }

    public int keep(int k) {
        if (!isKeeping(k)) {
            return BAD;
        }
        if (!live.there) {
            return STATE;
        }
        kept[k].takeBeads(live);
        kept[k].takeDeeds(live);
        return live.deeds;
    }

    public int on(int k) {
        if (!isKeeping(k)) {
            return BAD;
        }
        if (!kept[k].there) {
            return found(NOTHING);
        }
        live.takeBeads(kept[k]);
        live.takeDeeds(kept[k]);
        return live.deeds;
    }

    // ---- 3 what shows (aside)

    public int shows(int i, int c, int borne, int turns) {
        if (!isBead(i) || !isCell(c) || !isWithin(borne, 0, TOLD_MOST) || !isWithin(turns, 0, TOLD_MOST)) {
            return BAD;
        }
        return shown(live.kind[i], live.colour[i], c, borne, turns);
    }

    public int run(int r, int to) {
        if (!live.there) {
            return STATE;
        }
        if (!isRow(r) || !isRow(to)) {
            return BAD;
        }
        int refusal = movesRefused(rows[r], 0, RUN_MOST);
        if (refusal != FINE) {
            return refusal;
        }
        aside.takeBeads(live);
        int made = movesMadeAside(rows[r]);
        rows[to].begin(BEADS);
        for (int c = 0; c < BEADS; c++) {
            rows[to].set(c, aside.showIn(c));
        }
        return made;
    }

    public int rounds(int r) {
        if (!live.there) {
            return STATE;
        }
        if (!isRow(r)) {
            return BAD;
        }
        int refusal = movesRefused(rows[r], 1, RUN_MOST);
        if (refusal != FINE) {
            return refusal;
        }
        aside.takeBeads(live);
        for (int round = 1; round <= ROUNDS_MOST; round++) {
            if (movesMadeAside(rows[r]) < rows[r].size) {
                return NONE;
            }
            if (aside.liesAs(live)) {
                return round;
            }
        }
        return NONE;
    }

    // ---- 4 the fewest moves (aside)

    public int fewest(int c, int colour, int r) {
        if (!live.there) {
            return STATE;
        }
        if (!isCell(c) || !isColour(colour) || !isRow(r)) {
            return BAD;
        }
        Arrays.fill(wanted, ANY);
        wanted[c] = colour;
        return fewestToWanted(rows[r]);
    }

    public int picture(int r, int to) {
        if (!live.there) {
            return STATE;
        }
        if (!isRow(r) || !isRow(to)) {
            return BAD;
        }
        int refusal = pictureRefused(rows[r]);
        if (refusal != FINE) {
            return refusal;
        }
        wantPicture(rows[r]);
        return fewestToWanted(rows[to]);
    }

    public int which(int r) {
        if (!live.there) {
            return STATE;
        }
        if (!isRow(r)) {
            return BAD;
        }
        int refusal = pictureRefused(rows[r]);
        if (refusal != FINE) {
            return refusal;
        }
        wantPicture(rows[r]);
        aside.takeBeads(live);
        int bits = 0;
        for (int move = 0; move < MOVES; move++) {
            if (!aside.bars(move)) {
                aside.makeMove(move);
                if (aside.showsAs(wanted)) {
                    bits |= 1 << move;
                }
                aside.takeBack(move);
            }
        }
        return bits;
    }

    // ---- 5 which kind, which colour

    public int kinds(int i, int r) {
        int refusal = pairsRefused(i, r);
        return refusal != FINE ? refusal : kindsThatFit(i, rows[r]);
    }

    public int colours(int i, int r) {
        int refusal = pairsRefused(i, r);
        if (refusal != FINE) {
            return refusal;
        }
        int bits = 0;
        for (int colour = 0; colour < COLOURS; colour++) {
            aside.takeBeads(live);
            aside.setColour(i, colour);
            if (showedAside(i, rows[r])) {
                bits |= 1 << colour;
            }
        }
        return bits;
    }

    public int next(int i, int r) {
        int refusal = pairsRefused(i, r);
        if (refusal != FINE) {
            return refusal;
        }
        int bits = kindsThatFit(i, rows[r]);
        if (bits == 0) {
            return NONE;
        }
        int best = 0;
        int least = KINDS + 1;
        for (int move = 0; move < MOVES; move++) {
            int part = greatestPart(i, bits, move);
            if (part < least) {
                best = move;
                least = part;
            }
        }
        told(least);
        return best;
    }

    // ---- 6 by turns

    public int duel(int n) {
        if (!live.there) {
            return STATE;
        }
        if (!isWithin(n, 0, DUEL_MOST)) {
            return BAD;
        }
        aside.takeBeads(live);
        return told(leadByTurns(2 * n, -DUEL_BOUND, DUEL_BOUND));
    }

    // ---- 7 chances, lots

    public int odds(int r, int c, int colour, int p) {
        if (!live.there) {
            return STATE;
        }
        if (!isRow(r) || !isCell(c) || !isColour(colour) || !isWithin(p, 0, SLIP_PARTS)) {
            return BAD;
        }
        return tellSlips(rows[r], c, colour, p);
    }

    public int mid(int r, int c, int p) {
        if (!live.there) {
            return STATE;
        }
        if (!isRow(r) || !isCell(c) || !isWithin(p, 0, SLIP_PARTS)) {
            return BAD;
        }
        return tellSlips(rows[r], c, ANY, p);
    }

    public int lots(int n, int seed) {
        if (!live.there) {
            return STATE;
        }
        if (!isWithin(n, 1, LOTS_MOST) || seed < 1 || seed >= LOT_MODULUS) {
            return BAD;
        }
        if (live.deeds + n > DEEDS_MOST) {
            return FULL;
        }
        long lot = seed;
        for (int k = 0; k < n; k++) {
            lot = lot * LOT_FACTOR % LOT_MODULUS;
            live.doDeed(deedByLot((int) lot));
        }
        return live.showIn(0);
    }

    // ---- 8 what is told

    public int asked() {
        return lastAsked;
    }

    public long upper() {
        return lastUpper;
    }

    public long lower() {
        return lastLower;
    }

    public int count(int what) {
        return what < 0 || what >= COUNTS ? BAD : counted(what);
    }

    public int finding() {
        return lastFinding;
    }

    public int findings(int f) {
        return f < 1 || f > FINDING_KINDS ? BAD : findingTimes[f];
    }

    public long digest() {
        long h = 17L;
        for (int what = 0; what < COUNTS; what++) {
            h = 31L * h + counted(what);
        }
        h = digestBeads(h);
        for (int k = 0; k < KEPT; k++) {
            h = 31L * h + (kept[k].there ? kept[k].deeds : -1);
        }
        for (int r = 0; r < ROWS; r++) {
            h = rows[r].digestOn(h);
        }
        for (int t = 0; t < TEXTS; t++) {
            h = texts[t].digestOn(h);
        }
        return h;
    }

    // ---- which numbers there are

    private static boolean isWithin(int n, int least, int most) {
        return n >= least && n <= most;
    }

    private static boolean isRow(int r) {
        return r >= 0 && r < ROWS;
    }

    private static boolean isText(int t) {
        return t >= 0 && t < TEXTS;
    }

    private static boolean isKeeping(int k) {
        return k >= 0 && k < KEPT;
    }

    private static boolean isCell(int c) {
        return c >= 0 && c < BEADS;
    }

    private static boolean isColour(int colour) {
        return colour >= 0 && colour < COLOURS;
    }

    private static boolean isMove(int move) {
        return move >= 0 && move < MOVES;
    }

    private static boolean isCrossing(int c) {
        return c == 0 || c == 4;
    }

    /** Without beads no number is a bead's. */
    private boolean isBead(int i) {
        return live.there && i >= 0 && i < BEADS;
    }

    /** Glass beads are tinted ones too, roots are stuck ones too, all are beads. */
    private static boolean isOfKind(int kind, int asked) {
        return kind == asked || asked == PLAIN || asked == TINTED && kind == GLASS || asked == STUCK && kind == ROOT;
    }

    // ---- what is refused, what is told

    private int found(int which) {
        if (which >= 1 && which <= FINDING_KINDS) {
            lastFinding = which;
            findingTimes[which]++;
        }
        return FINDING;
    }

    private int told(int value) {
        lastAsked = value;
        return 1;
    }

    private int placeRefused(Row row, int i) {
        if (row.isMissing()) {
            return found(NOTHING);
        }
        return row.has(i) ? FINE : found(BEYOND);
    }

    private int movesRefused(Row row, int least, int most) {
        if (row.isMissing()) {
            return found(NOTHING);
        }
        if (!isWithin(row.size, least, most)) {
            return found(SIZE);
        }
        return row.allWithin(0, MOVES - 1) ? FINE : found(UNLIKE);
    }

    private int pictureRefused(Row row) {
        if (row.isMissing()) {
            return found(NOTHING);
        }
        if (row.size != BEADS) {
            return found(SIZE);
        }
        return row.allWithin(ANY, COLOURS - 1) ? FINE : found(UNLIKE);
    }

    private int pairsRefused(int i, int r) {
        if (!isBead(i) || !isRow(r)) {
            return BAD;
        }
        Row row = rows[r];
        if (row.isMissing()) {
            return found(NOTHING);
        }
        if (row.size % 2 != 0 || row.size > 2 * PAIRS_MOST) {
            return found(SIZE);
        }
        for (int k = 0; k + 1 < row.size; k += 2) {
            if (!isMove(row.get(k)) || !isColour(row.get(k + 1))) {
                return found(UNLIKE);
            }
        }
        return FINE;
    }

    // ---- beads

    private static int shown(int kind, int colour, int c, int borne, int turns) {
        switch (kind) {
            case TINTED:
                return (colour + borne) % COLOURS;
            case WORN:
                return Math.max(0, colour - turns / 4);
            case GLASS:
                return isCrossing(c) ? 0 : (colour + borne) % COLOURS;
            default:
                return colour;
        }
    }

    private static int kindOfLetter(int letter) {
        switch (letter) {
            case 'b':
                return PLAIN;
            case 't':
                return TINTED;
            case 'w':
                return WORN;
            case 's':
                return STUCK;
            case 'g':
                return GLASS;
            case 'r':
                return ROOT;
            default:
                return NONE;
        }
    }

    private static int firstFault(Row text) {
        int beads = 0;
        for (int i = 0; i < text.size; i++) {
            if (text.get(i) == BLANK) {
                continue;
            }
            if (beads == BEADS || kindOfLetter(text.get(i)) == NONE) {
                return i;
            }
            i++;
            if (i >= text.size) {
                return text.size;
            }
            if (!isColour(text.get(i) - FIGURE_NOUGHT)) {
                return i;
            }
            beads++;
        }
        return beads < BEADS ? text.size : NONE;
    }

    /** Only for a text without a fault: each item in it is a bead. */
    private void readBeads(Row text) {
        int i = 0;
        for (int at = 0; at + 1 < text.size && i < BEADS; at++) {
            if (text.get(at) != BLANK) {
                live.setKind(i, kindOfLetter(text.get(at)));
                live.setColour(i, text.get(at + 1) - FIGURE_NOUGHT);
                i++;
                at++;
            }
        }
    }

    private int beadSays(int i, int what) {
        if (i < 0 || i >= BEADS) {
            return 0;
        }
        switch (what) {
            case 0:
                return live.kind[i];
            case 1:
                return live.colour[i];
            case 2:
                return live.place[i];
            case 3:
                return live.borne[i];
            default:
                return live.showOf(i);
        }
    }

    private long digestBeads(long h) {
        long sum = h;
        for (int i = 0; live.there && i < BEADS; i++) {
            for (int what = 0; what < BEAD_SAYS; what++) {
                sum = 31L * sum + beadSays(i, what);
            }
        }
        return sum;
    }

    // ---- counts

    private int counted(int what) {
        switch (what) {
            case 0:
                return live.there ? BEADS : 0;
            case 1:
                return live.turns;
            case 2:
                return live.deeds;
            case 9:
                return rowsThere();
            case 10:
                return textsThere();
            case 11:
                return toysKept();
            default:
                return live.there ? countedOfBeads(what) : 0;
        }
    }

    private int countedOfBeads(int what) {
        switch (what) {
            case 3:
                return (live.barsRing(0) ? 1 : 0) + (live.barsRing(1) ? 2 : 0);
            case 4:
                return live.ringShows(0);
            case 5:
                return live.ringShows(1);
            case 6:
                return live.beadsAtHome();
            case 7:
                return live.beadsOfKind(TINTED);
            default:
                return live.beadsOfKind(STUCK);
        }
    }

    private int rowsThere() {
        int many = 0;
        for (int r = 0; r < ROWS; r++) {
            many += rows[r].isMissing() ? 0 : 1;
        }
        return many;
    }

    private int textsThere() {
        int many = 0;
        for (int t = 0; t < TEXTS; t++) {
            many += texts[t].isMissing() ? 0 : 1;
        }
        return many;
    }

    private int toysKept() {
        int many = 0;
        for (int k = 0; k < KEPT; k++) {
            many += kept[k].there ? 1 : 0;
        }
        return many;
    }

    // ---- deeds

    private static int exchangeDeed(int c, int d) {
        return MOVES + BEADS * c + d;
    }

    private int deedByLot(int lot) {
        if (lot / 8 % 8 == 7) {
            int c = lot % BEADS;
            int d = lot / 64 % BEADS;
            return c == d ? NO_CHANGE : exchangeDeed(c, d);
        }
        int move = lot % MOVES;
        return live.bars(move) ? NO_CHANGE : move;
    }

    // ---- moves made aside

    /** How many moves of the row, up to the first that is barred, were made. */
    private int movesMadeAside(Row row) {
        for (int k = 0; k < row.size; k++) {
            if (aside.bars(row.get(k))) {
                return k;
            }
            aside.makeMove(row.get(k));
        }
        return row.size;
    }

    private void wantPicture(Row row) {
        for (int c = 0; c < BEADS; c++) {
            wanted[c] = row.get(c);
        }
    }

    private int fewestToWanted(Row to) {
        aside.takeBeads(live);
        for (int many = 0; many <= FEWEST_MOST; many++) {
            if (reachesWanted(0, many)) {
                to.begin(many);
                for (int k = 0; k < many; k++) {
                    to.set(k, path[k]);
                }
                return many;
            }
        }
        return NONE;
    }

    /** Whether just so many moves lead there; the first such ones stand in path then. */
    private boolean reachesWanted(int depth, int many) {
        if (depth >= many || depth >= FEWEST_MOST) {
            return aside.showsAs(wanted);
        }
        for (int move = 0; move < MOVES; move++) {
            if (!aside.bars(move)) {
                path[depth] = move;
                aside.makeMove(move);
                boolean reached = reachesWanted(depth + 1, many);
                aside.takeBack(move);
                if (reached) {
                    return true;
                }
            }
        }
        return false;
    }

    // ---- which kind

    private int kindsThatFit(int i, Row pairs) {
        int bits = 0;
        for (int kind = 0; kind < KINDS; kind++) {
            aside.takeBeads(live);
            aside.setKind(i, kind);
            if (showedAside(i, pairs)) {
                bits |= 1 << kind;
            }
        }
        return bits;
    }

    private boolean showedAside(int i, Row pairs) {
        for (int k = 0; k + 1 < pairs.size; k += 2) {
            if (aside.bars(pairs.get(k))) {
                return false;
            }
            aside.makeMove(pairs.get(k));
            if (aside.showOf(i) != pairs.get(k + 1)) {
                return false;
            }
        }
        return true;
    }

    /** Of the kinds in bits, how many at the most a move would leave alike; barred ones are alike. */
    private int greatestPart(int i, int bits, int move) {
        Arrays.fill(parts, 0);
        int greatest = 0;
        for (int kind = 0; kind < KINDS; kind++) {
            if ((bits >> kind & 1) == 1) {
                int part = partOfKind(i, kind, move);
                if (part >= 0 && part < parts.length) {
                    parts[part]++;
                    greatest = Math.max(greatest, parts[part]);
                }
            }
        }
        return greatest;
    }

    private int partOfKind(int i, int kind, int move) {
        aside.takeBeads(live);
        aside.setKind(i, kind);
        if (aside.bars(move)) {
            return COLOURS;
        }
        aside.makeMove(move);
        return aside.showOf(i);
    }

    // ---- by turns

    /** What comes of it, so far as it lies between low and high: what lies outside changes nothing above. */
    private int leadByTurns(int left, int low, int high) {
        if (left <= 0 || left > 2 * DUEL_MOST) {
            return aside.lead();
        }
        boolean wantsMuch = left % 2 == 0;
        int least = low;
        int most = high;
        for (int move = NO_CHANGE; move < MOVES && least < most; move++) {
            if (!aside.bars(move)) {
                aside.makeMove(move);
                int lead = leadByTurns(left - 1, least, most);
                aside.takeBack(move);
                if (wantsMuch) {
                    least = Math.max(least, lead);
                } else {
                    most = Math.min(most, lead);
                }
            }
        }
        return wantsMuch ? least : most;
    }

    // ---- chances

    /** Tells the chance of a colour in a cell, or the mean of what it shows where the colour is ANY. */
    private int tellSlips(Row row, int c, int colour, int p) {
        int refusal = movesRefused(row, 1, SLIPS_MOST);
        if (refusal != FINE) {
            return refusal;
        }
        aside.takeBeads(live);
        long above = slipWeight(row, 0, c, colour, p);
        long below = 1L;
        for (int k = 0; k < row.size; k++) {
            below *= SLIP_PARTS;
        }
        long common = greatestDivisor(above, below);
        lastUpper = above / common;
        lastLower = below / common;
        return 1;
    }

    private long slipWeight(Row row, int depth, int c, int colour, int p) {
        if (depth >= row.size || depth >= SLIPS_MOST) {
            int show = aside.showIn(c);
            if (colour == ANY) {
                return show;
            }
            return show == colour ? 1L : 0L;
        }
        int move = row.get(depth);
        if (aside.bars(move)) {
            return SLIP_PARTS * slipWeight(row, depth + 1, c, colour, p);
        }
        long slipped = p == 0 ? 0L : p * slipWeight(row, depth + 1, c, colour, p);
        if (p == SLIP_PARTS) {
            return slipped;
        }
        aside.makeMove(move);
        long made = (SLIP_PARTS - p) * slipWeight(row, depth + 1, c, colour, p);
        aside.takeBack(move);
        return slipped + made;
    }

    /** At least 1, so that it may divide. */
    private static long greatestDivisor(long one, long other) {
        long a = one;
        long b = other;
        for (int k = 0; k < 200 && b != 0L; k++) {
            long rest = a % b;
            a = b;
            b = rest;
        }
        return Math.max(1L, a);
    }

    /** A row of ints, or a text's bytes, that may be missing; an index outside changes nothing. */
    private static final class Row {
        static final int MISSING = -1;

        final int[] places;
        final int fresh;
        int size = MISSING;

        Row(int most, int fresh) {
            this.places = new int[Math.max(0, most)];
            this.fresh = fresh;
        }

        boolean isMissing() {
            return size < 0;
        }

        void begin(int n) {
            if (n >= 0 && n <= places.length) {
                Arrays.fill(places, fresh);
                size = n;
            }
        }

        boolean has(int i) {
            return i >= 0 && i < size && i < places.length;
        }

        boolean hasRun(int from, int many) {
            return from >= 0 && many >= 0 && from <= size && many <= size - from;
        }

        int get(int i) {
            return i >= 0 && i < places.length ? places[i] : 0;
        }

        void set(int i, int v) {
            if (has(i)) {
                places[i] = v;
            }
        }

        long sum() {
            long sum = 0L;
            for (int i = 0; i < size; i++) {
                sum += get(i);
            }
            return sum;
        }

        boolean allWithin(int least, int most) {
            for (int i = 0; i < size; i++) {
                if (get(i) < least || get(i) > most) {
                    return false;
                }
            }
            return true;
        }

        long digestOn(long h) {
            long sum = 31L * h + size;
            for (int i = 0; i < size; i++) {
                sum = 31L * sum + get(i);
            }
            return sum;
        }
    }

    /** Beads in their cells and what was done to them. */
    private static final class Toy {
        final int[] kind = new int[BEADS];
        final int[] colour = new int[BEADS];
        final int[] place = new int[BEADS];
        final int[] borne = new int[BEADS];
        final int[] holds = new int[BEADS];
        final int[] deed = new int[DEEDS_MOST];
        int turns = 0;
        int deeds = 0;
        boolean there = false;

        void begin() {
            for (int i = 0; i < BEADS; i++) {
                place[i] = i;
                holds[i] = i;
                borne[i] = 0;
            }
            turns = 0;
            deeds = 0;
            there = true;
        }

        void takeBeads(Toy other) {
            System.arraycopy(other.kind, 0, kind, 0, BEADS);
            System.arraycopy(other.colour, 0, colour, 0, BEADS);
            System.arraycopy(other.place, 0, place, 0, BEADS);
            System.arraycopy(other.borne, 0, borne, 0, BEADS);
            System.arraycopy(other.holds, 0, holds, 0, BEADS);
            turns = other.turns;
            there = other.there;
        }

        void takeDeeds(Toy other) {
            System.arraycopy(other.deed, 0, deed, 0, DEEDS_MOST);
            deeds = other.deeds;
        }

        void setKind(int i, int v) {
            if (i >= 0 && i < BEADS) {
                kind[i] = v;
            }
        }

        void setColour(int i, int v) {
            if (i >= 0 && i < BEADS) {
                colour[i] = v;
            }
        }

        int beadIn(int c) {
            return c >= 0 && c < BEADS ? holds[c] : 0;
        }

        private void lieIn(int c, int i) {
            if (c >= 0 && c < BEADS && i >= 0 && i < BEADS) {
                holds[c] = i;
                place[i] = c;
            }
        }

        int showOf(int i) {
            return i >= 0 && i < BEADS ? shown(kind[i], colour[i], place[i], borne[i], turns) : 0;
        }

        int showIn(int c) {
            return showOf(beadIn(c));
        }

        boolean showsAs(int[] told) {
            for (int c = 0; c < BEADS && c < told.length; c++) {
                if (told[c] != ANY && told[c] != showOf(holds[c])) {
                    return false;
                }
            }
            return true;
        }

        boolean liesAs(Toy other) {
            for (int c = 0; c < BEADS; c++) {
                if (holds[c] != other.holds[c]) {
                    return false;
                }
            }
            return true;
        }

        private boolean holdsKind(int c, int asked) {
            int i = beadIn(c);
            return i >= 0 && i < BEADS && isOfKind(kind[i], asked);
        }

        boolean barsRing(int ring) {
            return ring == 0 ? holdsKind(4, ROOT) : holdsKind(0, STUCK) || holdsKind(4, STUCK);
        }

        /** To make no move is never barred. */
        boolean bars(int move) {
            return isMove(move) && barsRing(move / 2);
        }

        /** What is no move changes nothing. */
        void makeMove(int move) {
            if (isMove(move)) {
                shift(move);
                bear(move, 1);
                turns++;
            }
        }

        void takeBack(int move) {
            if (isMove(move)) {
                shift(move ^ 1);
                bear(move, -1);
                turns--;
            }
        }

        private void shift(int move) {
            int from = RING_SIZE * (move / 2);
            int step = move % 2 == 0 ? RING_SIZE - 1 : 1;
            int at = 0;
            int first = beadIn(ringCell(from));
            for (int k = 1; k < RING_SIZE; k++) {
                int source = (at + step) % RING_SIZE;
                lieIn(ringCell(from + at), beadIn(ringCell(from + source)));
                at = source;
            }
            lieIn(ringCell(from + at), first);
        }

        private static int ringCell(int k) {
            return k >= 0 && k < RING_CELLS.length ? RING_CELLS[k] : 0;
        }

        private void bear(int move, int times) {
            if (move / 2 == 1) {
                for (int k = RING_SIZE; k < 2 * RING_SIZE; k++) {
                    int i = beadIn(ringCell(k));
                    if (i >= 0 && i < BEADS) {
                        borne[i] += times;
                    }
                }
            }
        }

        private void swap(int told) {
            int c = (told - MOVES) / BEADS;
            int d = (told - MOVES) % BEADS;
            int first = beadIn(c);
            lieIn(c, beadIn(d));
            lieIn(d, first);
        }

        void doDeed(int told) {
            if (deeds < 0 || deeds >= DEEDS_MOST) {
                return;
            }
            deed[deeds] = told;
            deeds++;
            if (told >= MOVES) {
                swap(told);
            } else {
                makeMove(told);
            }
        }

        void undoLast() {
            if (deeds <= 0 || deeds > DEEDS_MOST) {
                return;
            }
            deeds--;
            int told = deed[deeds];
            if (told >= MOVES) {
                swap(told);
            } else {
                takeBack(told);
            }
        }

        int ringShows(int ring) {
            int sum = 0;
            for (int k = 0; k < RING_SIZE; k++) {
                sum += showOf(beadIn(ringCell(RING_SIZE * ring + k)));
            }
            return sum;
        }

        /** The crossings lie in both rings and weigh for neither. */
        int lead() {
            return ringShows(0) - ringShows(1);
        }

        int beadsAtHome() {
            int many = 0;
            for (int i = 0; i < BEADS; i++) {
                many += place[i] == i ? 1 : 0;
            }
            return many;
        }

        int beadsOfKind(int asked) {
            int many = 0;
            for (int i = 0; i < BEADS; i++) {
                many += isOfKind(kind[i], asked) ? 1 : 0;
            }
            return many;
        }

        int glassInCrossings() {
            return (holdsKind(0, GLASS) ? 1 : 0) + (holdsKind(4, GLASS) ? 1 : 0);
        }
    }
}
