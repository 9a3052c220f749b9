import java.util.ArrayList;
import java.util.Arrays;
import java.util.List;
import java.util.Random;

/**
 * Runs of calls on the class and on a model that is written otherwise: its rows hold objects, its
 * moves take a copy first, and what is taken back is a copy of all rows.
 */
public final class ModelTest {
    private static final int RUNS = 4000;
    private static final int SHORT_ROW = 8;
    // With its set-up and the reading of all at its end, a run stays below the 512 calls of an object.
    private static final int CALLS_OF_SHORT_ROWS = 300;
    private static final int CALLS_OF_LONG_ROWS = 130;
    private static final int NOTHING = -1;
    private static final int MOST_SECONDS = 60;

    private static final class Bead {
        final int number;
        final boolean pearl;
        int colour;

        Bead(int number, boolean pearl, int colour) {
            this.number = number;
            this.pearl = pearl;
            this.colour = colour;
        }
    }

    private static final class Model {
        final int[] kinds = new int[8];
        final List<List<Object>> rows = new ArrayList<>();
        final List<Bead> beads = new ArrayList<>();
        final List<int[]> steps = new ArrayList<>();
        final int[] refused = new int[5];
        int came;
        int done;
        int rounds;

        Model() {
            for (int r = 0; r < 8; r++) {
                rows.add(new ArrayList<>());
            }
        }

        boolean isRack(int r) {
            return 0 <= r && r <= 7;
        }

        boolean isRow(int r) {
            return isRack(r) && 1 <= kinds[r] && kinds[r] <= 8;
        }

        boolean isPlace(int r, int p) {
            return isRow(r) && 0 <= p && p < rows.get(r).size();
        }

        Object first(int kind) {
            return kind >= 7 ? null : kind == 6 ? Boolean.FALSE : (Object) 0L;
        }

        boolean make(int r, int kind, int n) {
            if (!isRack(r) || kind < 1 || kind > 8 || n < 0 || n > 40) {
                return false;
            }
            List<Object> row = new ArrayList<>();
            for (int p = 0; p < n; p++) {
                row.add(first(kind));
            }
            kinds[r] = kind;
            rows.set(r, row);
            return true;
        }

        boolean lamp(int r) {
            if (!isRack(r)) {
                return false;
            }
            kinds[r] = 9;
            rows.set(r, new ArrayList<>());
            return true;
        }

        boolean empty(int r) {
            if (!isRack(r) || kinds[r] == 0) {
                return false;
            }
            kinds[r] = 0;
            rows.set(r, new ArrayList<>());
            return true;
        }

        int bead(int colour, boolean pearl) {
            if (beads.size() == 200) {
                return -1;
            }
            beads.add(new Bead(beads.size(), pearl, colour));
            return beads.size() - 1;
        }

        boolean paint(int bead, int colour) {
            if (bead < 0 || bead >= beads.size()) {
                return false;
            }
            beads.get(bead).colour = colour;
            return true;
        }

        int colour(int bead) {
            return bead < 0 || bead >= beads.size() ? 0 : beads.get(bead).colour;
        }

        boolean put(int r, int p, long v) {
            if (!isPlace(r, p)) {
                return false;
            }
            int kind = kinds[r];
            Object thing;
            if (kind <= 5) {
                thing = lowest(kind, v);
            } else if (kind == 6) {
                thing = v != 0;
            } else if (v == -1) {
                thing = null;
            } else {
                if (v < 0 || v >= beads.size() || (kind == 8 && !beads.get((int) v).pearl)) {
                    return false;
                }
                thing = beads.get((int) v);
            }
            rows.get(r).set(p, thing);
            return true;
        }

        Long lowest(int kind, long v) {
            int bits = new int[] {0, 8, 16, 16, 32, 64}[kind];
            return kind == 3 ? v << 48 >>> 48 : v << (64 - bits) >> (64 - bits);
        }

        long look(int r, int p) {
            if (!isPlace(r, p)) {
                return 0;
            }
            Object thing = rows.get(r).get(p);
            if (thing == null) {
                return -1;
            }
            if (thing instanceof Bead) {
                return ((Bead) thing).number;
            }
            return thing instanceof Boolean ? ((Boolean) thing ? 1 : 0) : (Long) thing;
        }

        int move(int a, long i, int b, long j, long n) {
            if (!isRack(a) || !isRack(b)) {
                return -1;
            }
            came = 0;
            int reason = reason(a, i, b, j, n);
            if (reason == 0) {
                List<Object> before = new ArrayList<>(rows.get(a));
                for (long k = 0; k < n && reason == 0; k++) {
                    Object thing = before.get((int) (i + k));
                    if (kinds[b] == 8 && thing != null && !((Bead) thing).pearl) {
                        reason = 4;
                    } else {
                        rows.get(b).set((int) (j + k), thing);
                        came++;
                    }
                }
            }
            if (reason == 0) {
                done++;
            } else {
                refused[reason]++;
            }
            return reason;
        }

        int reason(int a, long i, int b, long j, long n) {
            if (kinds[a] == 0 || kinds[b] == 0) {
                return 1;
            }
            if (kinds[a] == 9 || kinds[b] == 9) {
                return 2;
            }
            if (Math.min(kinds[a], 7) != Math.min(kinds[b], 7)) {
                return 2;
            }
            boolean inside = i >= 0 && j >= 0 && n >= 0 && i + n <= rows.get(a).size()
                && j + n <= rows.get(b).size();
            return inside ? 0 : 3;
        }

        int open(int r, int p) {
            if (!isRack(r)) {
                return -1;
            }
            int reason = move(r, p, r, p + 1L, rows.get(r).size() - 1L - p);
            if (reason == 0) {
                rows.get(r).set(p, first(kinds[r]));
            }
            return reason;
        }

        int close(int r, int p) {
            if (!isRack(r)) {
                return -1;
            }
            int reason = move(r, p + 1L, r, p, rows.get(r).size() - 1L - p);
            if (reason == 0) {
                rows.get(r).set(rows.get(r).size() - 1, first(kinds[r]));
            }
            return reason;
        }

        int turn(int r, int d) {
            if (!isRack(r)) {
                return -1;
            }
            if (!isRow(r)) {
                return kinds[r] == 0 ? 1 : 2;
            }
            List<Object> before = rows.get(r);
            Object[] after = new Object[before.size()];
            for (int p = 0; p < after.length; p++) {
                long place = ((long) p + d) % after.length;
                after[(int) (place < 0 ? place + after.length : place)] = before.get(p);
            }
            rows.set(r, new ArrayList<>(Arrays.asList(after)));
            return 0;
        }

        int step(int a, int i, int b, int j, int n) {
            if (!isRack(a) || !isRack(b) || steps.size() == 24) {
                return -1;
            }
            steps.add(new int[] {a, i, b, j, n});
            return steps.size();
        }

        int forget() {
            int had = steps.size();
            steps.clear();
            return had;
        }

        int weave(int times, boolean whole) {
            if (times < 1 || times > 50 || steps.isEmpty()) {
                return -1;
            }
            int stayed = 0;
            for (int round = 1; round <= times; round++) {
                List<List<Object>> before = new ArrayList<>();
                for (List<Object> row : rows) {
                    before.add(new ArrayList<>(row));
                }
                int inRound = 0;
                for (int[] s : steps) {
                    if (move(s[0], s[1], s[2], s[3], s[4]) != 0) {
                        if (whole) {
                            rows.clear();
                            rows.addAll(before);
                        }
                        return whole ? stayed : stayed + inRound;
                    }
                    inRound++;
                }
                stayed += inRound;
                rounds++;
            }
            return stayed;
        }

        int alike(int a, int b) {
            if (!isRow(a) || !isRow(b)) {
                return -1;
            }
            int p = 0;
            while (isPlace(a, p) && isPlace(b, p) && alikeAt(a, b, p)) {
                p++;
            }
            return p;
        }

        boolean alikeAt(int a, int b, int p) {
            Object one = rows.get(a).get(p);
            Object other = rows.get(b).get(p);
            return one == null ? other == null : one.equals(other);
        }

        long shade(int r) {
            long sum = 0;
            if (isRow(r)) {
                for (int p = 0; p < rows.get(r).size(); p++) {
                    Object thing = rows.get(r).get(p);
                    sum += thing == null ? 0 : thing instanceof Bead ? ((Bead) thing).colour : look(r, p);
                }
            }
            return sum;
        }

        int rack(int r, int what) {
            if (!isRack(r) || what < 0 || what > 1) {
                return -1;
            }
            return what == 0 ? kinds[r] : rows.get(r).size();
        }

        int about(int what) {
            int[] all = {came, refused[1], refused[2], refused[3], refused[4], done, beads.size(),
                steps.size(), rounds};
            return what < 0 || what >= all.length ? -1 : all[what];
        }
    }

    /** One run: the class and the model side by side, and the source of the arguments. */
    private static final class Run {
        final BeadLoom loom = new BeadLoom();
        final Model model = new Model();
        final Random random;
        final int number;
        final int firstKind;
        final int kindsInUse;
        final int mostPlaces;
        final int wildness;
        final StringBuilder told = new StringBuilder();
        final int[] seen = new int[9];

        Run(int number, long seed) {
            this.number = number;
            random = new Random(seed);
            // Few KINDS in one run, so that many MOVINGS are between like ones.
            boolean ofBeads = random.nextInt(2) == 0;
            kindsInUse = ofBeads ? 2 : 1 + random.nextInt(8);
            firstKind = ofBeads ? 7 : 1 + random.nextInt(9 - kindsInUse);
            mostPlaces = random.nextInt(4) == 0 ? 40 : 1 + random.nextInt(SHORT_ROW);
            wildness = new int[] {8, 40, 400}[random.nextInt(3)];
        }

        boolean wild() {
            return random.nextInt(wildness) == 0;
        }

        int edge() {
            int[] edges = {-1, -2, 8, 9, 40, 41, 50, 51, 200, Integer.MAX_VALUE, Integer.MIN_VALUE,
                Integer.MAX_VALUE - 1, Integer.MIN_VALUE + 1, random.nextInt()};
            return edges[random.nextInt(edges.length)];
        }

        int rackArg() {
            return wild() ? edge() : random.nextInt(random.nextInt(4) == 0 ? 8 : 3);
        }

        int kindArg() {
            return wild() ? edge() : firstKind + random.nextInt(kindsInUse);
        }

        int placeArg() {
            return wild() ? edge() : random.nextInt(mostPlaces + 1);
        }

        int beadArg() {
            if (wild()) {
                return edge();
            }
            boolean none = random.nextInt(6) == 0;
            return none ? NOTHING : random.nextInt(model.beads.size() + (random.nextInt(9) == 0 ? 2 : 1));
        }

        int placeOf(int rack) {
            boolean fitting = random.nextInt(6) != 0 && model.isRow(rack) && model.rows.get(rack).size() > 0;
            return fitting ? random.nextInt(model.rows.get(rack).size()) : placeArg();
        }

        long thingArg(int rack) {
            if (wild()) {
                return random.nextInt(2) == 0 ? edge() : (1L << 32) * edge() + random.nextInt(3);
            }
            if (model.isRow(rack) && model.kinds[rack] >= 7) {
                return beadArg();
            }
            return random.nextInt(3) == 0 ? random.nextLong() : random.nextInt(5) - 2;
        }

        /** The five numbers of a MOVING, mostly such as fit the racks as they are. */
        int[] movingArgs() {
            int a = rackArg();
            int b = rackArg();
            int n = placeArg();
            int i = placeArg();
            int j = placeArg();
            if (random.nextInt(5) != 0 && model.isRow(a) && model.isRow(b)) {
                int inA = model.rows.get(a).size();
                int inB = model.rows.get(b).size();
                n = random.nextInt(Math.min(inA, inB) + 1);
                i = random.nextInt(inA - n + 1);
                j = random.nextInt(inB - n + 1);
            }
            return new int[] {a, i, b, j, n};
        }

        void due(String call, long got, long want) {
            told.append("\n  ").append(call).append(" = ").append(got);
            if (got != want) {
                System.out.println("run " + number + ":" + told + "\nthe last is wrong, due is " + want);
                System.exit(1);
            }
        }

        void due(String call, boolean got, boolean want) {
            due(call, got ? 1 : 0, want ? 1 : 0);
        }

        void makeCall(int which) {
            int r = rackArg();
            int p = placeOf(r);
            if (which < 6) {
                int kind = kindArg();
                int n = wild() ? edge() : random.nextInt(mostPlaces + 1);
                due("make(" + r + ", " + kind + ", " + n + ")", loom.make(r, kind, n), model.make(r, kind, n));
            } else if (which < 7) {
                int seldom = wild() ? edge() : random.nextInt(8);
                due("lamp(" + seldom + ")", loom.lamp(seldom), model.lamp(seldom));
            } else if (which < 8) {
                int seldom = wild() ? edge() : random.nextInt(8);
                due("empty(" + seldom + ")", loom.empty(seldom), model.empty(seldom));
            } else if (which < 14) {
                int colour = random.nextInt();
                boolean pearl = random.nextInt(3) != 0;
                due("bead(" + colour + ", " + pearl + ")", loom.bead(colour, pearl), model.bead(colour, pearl));
            } else if (which < 16) {
                int bead = beadArg();
                int colour = random.nextInt();
                due("paint(" + bead + ", " + colour + ")", loom.paint(bead, colour), model.paint(bead, colour));
            } else {
                long v = thingArg(r);
                due("put(" + r + ", " + p + ", " + v + ")", loom.put(r, p, v), model.put(r, p, v));
            }
        }

        void moveCall(int which) {
            int r = rackArg();
            int p = placeOf(r);
            int[] m = movingArgs();
            String five = "(" + m[0] + ", " + m[1] + ", " + m[2] + ", " + m[3] + ", " + m[4] + ")";
            if (which < 12) {
                due("move" + five, loom.move(m[0], m[1], m[2], m[3], m[4]),
                    model.move(m[0], m[1], m[2], m[3], m[4]));
            } else if (which < 15) {
                due("open(" + r + ", " + p + ")", loom.open(r, p), model.open(r, p));
            } else if (which < 18) {
                due("close(" + r + ", " + p + ")", loom.close(r, p), model.close(r, p));
            } else if (which < 21) {
                int d = random.nextInt(3) == 0 ? random.nextInt() : random.nextInt(30) - 15;
                due("turn(" + r + ", " + d + ")", loom.turn(r, d), model.turn(r, d));
            } else if (which < 29) {
                due("step" + five, loom.step(m[0], m[1], m[2], m[3], m[4]),
                    model.step(m[0], m[1], m[2], m[3], m[4]));
            } else if (which < 31) {
                due("forget()", loom.forget(), model.forget());
            } else {
                int rounds = wild() ? edge() : random.nextInt(6) == 0 ? random.nextInt(52) : 1 + random.nextInt(4);
                boolean whole = random.nextBoolean();
                due("weave(" + rounds + ", " + whole + ")", loom.weave(rounds, whole), model.weave(rounds, whole));
            }
        }

        void readCall(int which) {
            int r = rackArg();
            int other = rackArg();
            if (which == 0) {
                int p = placeOf(r);
                due("look(" + r + ", " + p + ")", loom.look(r, p), model.look(r, p));
            } else if (which == 1) {
                due("alike(" + r + ", " + other + ")", loom.alike(r, other), model.alike(r, other));
            } else if (which == 2) {
                due("shade(" + r + ")", loom.shade(r), model.shade(r));
            } else if (which == 3) {
                int bead = beadArg();
                due("colour(" + bead + ")", loom.colour(bead), model.colour(bead));
            } else if (which == 4) {
                int what = wild() ? edge() : random.nextInt(3);
                due("rack(" + r + ", " + what + ")", loom.rack(r, what), model.rack(r, what));
            } else {
                int what = wild() ? edge() : random.nextInt(10);
                due("about(" + what + ")", loom.about(what), model.about(what));
            }
        }

        void readAll() {
            for (int r = 0; r < 8; r++) {
                due("rack(" + r + ", 0)", loom.rack(r, 0), model.rack(r, 0));
                due("rack(" + r + ", 1)", loom.rack(r, 1), model.rack(r, 1));
                for (int p = 0; p < model.rows.get(r).size(); p++) {
                    due("look(" + r + ", " + p + ")", loom.look(r, p), model.look(r, p));
                }
            }
            for (int what = 0; what <= 8; what++) {
                due("about(" + what + ")", loom.about(what), model.about(what));
                seen[what] += model.about(what);
            }
        }

        /** Rows that hold something: the calls by chance alone seldom come so far. */
        void setUp() {
            for (int k = 0; k < 6; k++) {
                due("bead(" + k + ", " + (k % 2 == 0) + ")", loom.bead(k, k % 2 == 0), model.bead(k, k % 2 == 0));
            }
            for (int r = 0; r < 3; r++) {
                int kind = firstKind + random.nextInt(kindsInUse);
                int n = 1 + random.nextInt(mostPlaces);
                due("make(" + r + ", " + kind + ", " + n + ")", loom.make(r, kind, n), model.make(r, kind, n));
                for (int p = 0; p < Math.min(n, SHORT_ROW); p++) {
                    long v = thingArg(r);
                    due("put(" + r + ", " + p + ", " + v + ")", loom.put(r, p, v), model.put(r, p, v));
                }
            }
        }

        void play() {
            setUp();
            int calls = mostPlaces > SHORT_ROW ? CALLS_OF_LONG_ROWS : CALLS_OF_SHORT_ROWS;
            for (int c = 0; c < calls; c++) {
                int sort = random.nextInt(10);
                if (sort < 3) {
                    makeCall(random.nextInt(80));
                } else if (sort < 8) {
                    moveCall(random.nextInt(36));
                } else {
                    readCall(random.nextInt(6));
                }
            }
            readAll();
        }
    }

    /** A call that doesn't end is a fault too: the test then ends all the same. */
    private static void endInTime() {
        Thread watch = new Thread(() -> {
            try {
                Thread.sleep(MOST_SECONDS * 1000L);
            } catch (InterruptedException stopped) {
                return;
            }
            System.out.println("a call hasn't ended in " + MOST_SECONDS + " seconds");
            System.out.flush();
            Runtime.getRuntime().halt(1);
        });
        watch.setDaemon(true);
        watch.start();
    }

    public static void main(String[] args) {
        endInTime();
        long[] seen = new long[9];
        // Seeds that lie close together would give runs that begin alike.
        Random seeds = new Random(20261116);
        for (int number = 0; number < RUNS; number++) {
            Run run = new Run(number, seeds.nextLong());
            run.play();
            for (int what = 0; what < seen.length; what++) {
                seen[what] += run.seen[what];
            }
        }
        // The runs are worth nothing if they never came to a reason, or to a ROUND's end.
        for (int what = 0; what < seen.length; what++) {
            if (seen[what] < RUNS / 4) {
                System.out.println("the runs hardly touch about(" + what + "): " + seen[what]);
                System.exit(1);
            }
        }
        System.out.println(RUNS + " runs as in the model; sums of about(0 .. 8): " + Arrays.toString(seen));
    }
}
