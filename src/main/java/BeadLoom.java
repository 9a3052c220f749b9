/**
 * A bead loom: eight racks whose rows of things are moved, opened, closed, turned and woven.
 * The words used here (MOVING, CAME, ROUND, ..) are those of the document.
 */
public final class BeadLoom {
    public static final int NONE = -1;

    private static final int RACKS = 8;
    private static final int MOST_PLACES = 40;
    private static final int MOST_BEADS = 200;
    private static final int MOST_STEPS = 24;
    private static final int MOST_ROUNDS = 50;

    // What a rack holds, numbered as rack(.., 0) tells it.
    private static final int EMPTY = 0;
    private static final int BYTES = 1;
    private static final int SHORTS = 2;
    private static final int CHARS = 3;
    private static final int INTS = 4;
    private static final int LONGS = 5;
    private static final int TRUTHS = 6;
    private static final int BEADS = 7;
    private static final int PEARLS = 8;
    private static final int LAMP = 9;

    // How a MOVING ended: done, or the reason by which it was REFUSED.
    private static final int DONE = 0;
    private static final int RACK_IS_EMPTY = 1;
    private static final int KINDS_UNLIKE = 2;
    private static final int OUT_OF_PLACES = 3;
    private static final int NO_PEARL = 4;
    private static final int OUTCOMES = 5;

    private final Rack[] racks = new Rack[RACKS];
    private final int[] colours = new int[MOST_BEADS];
    private final boolean[] pearls = new boolean[MOST_BEADS];
    private final Pattern pattern = new Pattern();
    private final int[] movings = new int[OUTCOMES];
    private int beads = 0;
    private int came = 0;
    private int roundsWoven = 0;

    /**
     * What one rack holds. Its cells are made once and serve every row that comes to lie here.
     * A cell is a number, a 0 or 1, a bead's number, or NONE for nothing.
     */
    private static final class Rack {
        private final long[] cells = new long[MOST_PLACES];
        // Needed only within one call: the cells as they were ahead of a TURNING or a ROUND.
        private final long[] kept = new long[MOST_PLACES];
        private int kind = EMPTY;
        private int places = 0;

        private void hold(int newKind, int newPlaces) {
            kind = newKind;
            places = newPlaces;
            for (int p = 0; p < MOST_PLACES; p++) {
                cells[p] = blank(newKind);
            }
        }

        private boolean hasRow() {
            return kind != EMPTY && kind != LAMP;
        }

        private boolean hasPlace(int p) {
            return p >= 0 && p < places;
        }

        private boolean hasStretch(long start, long n) {
            return start >= 0 && n >= 0 && start + n <= places;
        }

        private void blankPlace(int p) {
            if (hasPlace(p)) {
                cells[p] = blank(kind);
            }
        }

        private void keepCells() {
            System.arraycopy(cells, 0, kept, 0, MOST_PLACES);
        }

        private void restoreCells() {
            System.arraycopy(kept, 0, cells, 0, MOST_PLACES);
        }

        private void rotate(int d) {
            if (places == 0) {
                return;
            }
            keepCells();
            // The remainder of d is taken first, so that the sum with p can't wrap.
            int shift = Math.floorMod(d, places);
            for (int p = 0; p < places; p++) {
                cells[(p + shift) % places] = kept[p];
            }
        }
    }

    /** The STEPS, one number of each STEP in each array. */
    private static final class Pattern {
        private final int[] fromRack = new int[MOST_STEPS];
        private final int[] fromPlace = new int[MOST_STEPS];
        private final int[] toRack = new int[MOST_STEPS];
        private final int[] toPlace = new int[MOST_STEPS];
        private final int[] things = new int[MOST_STEPS];
        private int steps = 0;

        private boolean isFull() {
            return steps >= MOST_STEPS;
        }

        private void append(int a, int i, int b, int j, int n) {
            if (isFull()) {
                return;
            }
            fromRack[steps] = a;
            fromPlace[steps] = i;
            toRack[steps] = b;
            toPlace[steps] = j;
            things[steps] = n;
            steps++;
        }
    }

    public BeadLoom() {
        for (int r = 0; r < RACKS; r++) {
            racks[r] = new Rack();
        }
    }

    public boolean make(int rack, int kind, int n) {
        Rack held = rackAt(rack);
        if (held == null || kind < BYTES || kind > PEARLS || n < 0 || n > MOST_PLACES) {
            return false;
        }
        held.hold(kind, n);
        return true;
    }

    public boolean lamp(int rack) {
        Rack held = rackAt(rack);
        if (held == null) {
            return false;
        }
        held.hold(LAMP, 0);
        return true;
    }

    public boolean empty(int rack) {
        Rack held = rackAt(rack);
        if (held == null || held.kind == EMPTY) {
            return false;
        }
        held.hold(EMPTY, 0);
        return true;
    }

    public int bead(int colour, boolean pearl) {
        if (beads >= MOST_BEADS) {
            return NONE;
        }
        colours[beads] = colour;
        pearls[beads] = pearl;
        beads++;
        return beads - 1;
    }

    public boolean paint(int bead, int colour) {
        if (!isBead(bead)) {
            return false;
        }
        colours[bead] = colour;
        return true;
    }

    public int colour(int bead) {
        return colourOf(bead);
    }

    public boolean put(int rack, int p, long v) {
        Rack row = rowAt(rack);
        if (row == null || !row.hasPlace(p) || !mayLie(row.kind, v)) {
            return false;
        }
        row.cells[p] = fitted(row.kind, v);
        return true;
    }

    public long look(int rack, int p) {
        Rack row = rowAt(rack);
        if (row == null || !row.hasPlace(p)) {
            return 0;
        }
        return row.cells[p];
    }

    public int move(int a, int i, int b, int j, int n) {
        return moving(rackAt(a), i, rackAt(b), j, n);
    }

    public int open(int rack, int p) {
        Rack held = rackAt(rack);
        if (held == null) {
            return NONE;
        }
        int outcome = moving(held, p, held, p + 1L, thingsBehind(held, p));
        if (outcome == DONE) {
            held.blankPlace(p);
        }
        return outcome;
    }

    public int close(int rack, int p) {
        Rack held = rackAt(rack);
        if (held == null) {
            return NONE;
        }
        int outcome = moving(held, p + 1L, held, p, thingsBehind(held, p));
        if (outcome == DONE) {
            held.blankPlace(held.places - 1);
        }
        return outcome;
    }

    public int turn(int rack, int d) {
        Rack held = rackAt(rack);
        if (held == null) {
            return NONE;
        }
        if (held.kind == EMPTY) {
            return RACK_IS_EMPTY;
        }
        if (held.kind == LAMP) {
            return KINDS_UNLIKE;
        }
        held.rotate(d);
        return DONE;
    }

    public int step(int a, int i, int b, int j, int n) {
        if (rackAt(a) == null || rackAt(b) == null || pattern.isFull()) {
            return NONE;
        }
        pattern.append(a, i, b, j, n);
        return pattern.steps;
    }

    public int forget() {
        int had = pattern.steps;
        pattern.steps = 0;
        return had;
    }

    public int weave(int rounds, boolean whole) {
        if (rounds < 1 || rounds > MOST_ROUNDS || pattern.steps == 0) {
            return NONE;
        }
        int done = 0;
        for (int round = 0; round < rounds; round++) {
            if (whole) {
                keepAllRows();
            }
            int doneInRound = weaveRound();
            boolean ended = doneInRound == pattern.steps;
            if (!ended && whole) {
                restoreAllRows();
                return done;
            }
            done += doneInRound;
            if (!ended) {
                return done;
            }
            roundsWoven++;
        }
        return done;
    }

    public int alike(int a, int b) {
        Rack first = rowAt(a);
        Rack second = rowAt(b);
        if (first == null || second == null) {
            return NONE;
        }
        if (!mayCompare(first.kind, second.kind)) {
            return 0;
        }
        int shorter = Math.min(first.places, second.places);
        int p = 0;
        while (p < shorter && first.cells[p] == second.cells[p]) {
            p++;
        }
        return p;
    }

    public long shade(int rack) {
        Rack row = rowAt(rack);
        if (row == null) {
            return 0;
        }
        boolean ofBeads = holdsBeads(row.kind);
        long sum = 0;
        for (int p = 0; p < row.places; p++) {
            sum += ofBeads ? colourOf(row.cells[p]) : row.cells[p];
        }
        return sum;
    }

    public int rack(int rack, int what) {
        Rack held = rackAt(rack);
        if (held == null) {
            return NONE;
        }
        switch (what) {
            case 0:
                return held.kind;
            case 1:
                return held.places;
            default:
                return NONE;
        }
    }

    public int about(int what) {
        switch (what) {
            case 0:
                return came;
            case 1:
                return movings[RACK_IS_EMPTY];
            case 2:
                return movings[KINDS_UNLIKE];
            case 3:
                return movings[OUT_OF_PLACES];
            case 4:
                return movings[NO_PEARL];
            case 5:
                return movings[DONE];
            case 6:
                return beads;
            case 7:
                return pattern.steps;
            case 8:
                return roundsWoven;
            default:
                return NONE;
        }
    }

    private Rack rackAt(int rack) {
        return rack >= 0 && rack < RACKS ? racks[rack] : null;
    }

    private Rack rowAt(int rack) {
        Rack held = rackAt(rack);
        return held != null && held.hasRow() ? held : null;
    }

    // Beads are asked for by long, so that a put of 2^32 isn't taken for bead 0.
    private boolean isBead(long bead) {
        return bead >= 0 && bead < beads;
    }

    private int colourOf(long bead) {
        return isBead(bead) ? colours[(int) bead] : 0;
    }

    private boolean mayLie(int kind, long v) {
        if (!holdsBeads(kind) || v == NONE) {
            return true;
        }
        return isBead(v) && (kind == BEADS || pearls[(int) v]);
    }

    private static boolean holdsBeads(int kind) {
        return kind == BEADS || kind == PEARLS;
    }

    private static boolean holdsNumbers(int kind) {
        return kind >= BYTES && kind <= LONGS;
    }

    private static long blank(int kind) {
        return holdsBeads(kind) ? NONE : 0;
    }

    private static long fitted(int kind, long v) {
        switch (kind) {
            case BYTES:
                return (byte) v;
            case SHORTS:
                return (short) v;
            case CHARS:
                return (char) v;
            case INTS:
                return (int) v;
            case TRUTHS:
                return v == 0 ? 0 : 1;
            default:
                return v;
        }
    }

    private static boolean mayExchange(int kind, int other) {
        return kind == other || (holdsBeads(kind) && holdsBeads(other));
    }

    // Numbers of unlike KINDS may be ALIKE, though they can't be moved to one another.
    private static boolean mayCompare(int kind, int other) {
        return mayExchange(kind, other) || (holdsNumbers(kind) && holdsNumbers(other));
    }

    private static long thingsBehind(Rack held, int p) {
        return held.places - 1L - p;
    }

    // The three numbers are longs, so that no sum of an int's edge wraps.
    private int moving(Rack a, long i, Rack b, long j, long n) {
        if (a == null || b == null) {
            return NONE;
        }
        came = 0;
        int outcome = hindrance(a, i, b, j, n);
        if (outcome == DONE) {
            came = mayCome(a, (int) i, b, (int) n);
            // arraycopy takes each thing as it was ahead of all, also within one rack.
            System.arraycopy(a.cells, (int) i, b.cells, (int) j, came);
            outcome = came < n ? NO_PEARL : DONE;
        }
        movings[outcome]++;
        return outcome;
    }

    private static int hindrance(Rack a, long i, Rack b, long j, long n) {
        if (a.kind == EMPTY || b.kind == EMPTY) {
            return RACK_IS_EMPTY;
        }
        if (!a.hasRow() || !b.hasRow() || !mayExchange(a.kind, b.kind)) {
            return KINDS_UNLIKE;
        }
        if (!a.hasStretch(i, n) || !b.hasStretch(j, n)) {
            return OUT_OF_PLACES;
        }
        return DONE;
    }

    private int mayCome(Rack a, int i, Rack b, int n) {
        if (b.kind != PEARLS) {
            return n;
        }
        int k = 0;
        while (k < n && mayLie(PEARLS, a.cells[i + k])) {
            k++;
        }
        return k;
    }

    /** Does the STEPS up to the first that is REFUSED, and tells how many weren't. */
    private int weaveRound() {
        for (int s = 0; s < pattern.steps; s++) {
            Rack from = rackAt(pattern.fromRack[s]);
            Rack to = rackAt(pattern.toRack[s]);
            int outcome = moving(from, pattern.fromPlace[s], to, pattern.toPlace[s], pattern.things[s]);
            if (outcome != DONE) {
                return s;
            }
        }
        return pattern.steps;
    }

    // Weaving changes neither KINDS nor places, so the cells are all that is kept.
    private void keepAllRows() {
        for (int r = 0; r < RACKS; r++) {
            racks[r].keepCells();
        }
    }

    private void restoreAllRows() {
        for (int r = 0; r < RACKS; r++) {
            racks[r].restoreCells();
        }
    }
}
