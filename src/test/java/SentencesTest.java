import java.io.IOException;
import java.nio.file.Files;
import java.nio.file.Path;
import java.util.ArrayList;
import java.util.List;
import java.util.function.Consumer;
import java.util.function.Function;
import java.util.function.IntBinaryOperator;
import java.util.function.Supplier;

/**
 * The document's terms and promises, sentence by sentence, each with a test of its own: of every
 * boundary the case just inside it, the one just outside, and the largest and the smallest number that
 * the argument can hold. At its end the test looks whether the document has a sentence that none quotes.
 */
public final class SentencesTest {
    private static final Path DOCUMENT = Path.of("../shared/DOC.md");
    private static final int NONE = BeadLoom.NONE;
    private static final int MAX = Integer.MAX_VALUE;
    private static final int MIN = Integer.MIN_VALUE;
    private static final long LMAX = Long.MAX_VALUE;
    private static final long LMIN = Long.MIN_VALUE;
    private static final long TWO_TO_32 = 1L << 32;
    private static final int[] NO_RACKS = {-1, 8, MAX, MIN};
    private static final int MOST_CALLS = 512;
    private static final int MOST_SECONDS = 60;

    private static final List<String> QUOTED = new ArrayList<>();
    private static volatile String section = "";
    private static volatile String lastCall = "";
    private static int checks = 0;
    private static int wrong = 0;

    // ---- The means of the tests ----

    /** The class, with its calls told and counted: what it answers after the 512th is free. */
    private static final class Loom {
        private final BeadLoom loom = new BeadLoom();
        private int calls = 0;

        private BeadLoom told(String name, Object... arguments) {
            StringBuilder call = new StringBuilder(name).append('(');
            for (int k = 0; k < arguments.length; k++) {
                call.append(k == 0 ? "" : ", ").append(arguments[k]);
            }
            lastCall = call.append(')').toString();
            calls++;
            if (calls == MOST_CALLS + 1) {
                fault("the test itself calls one object more than " + MOST_CALLS + " times");
            }
            return loom;
        }

        boolean make(int rack, int kind, int n) {
            return told("make", rack, kind, n).make(rack, kind, n);
        }

        boolean lamp(int rack) {
            return told("lamp", rack).lamp(rack);
        }

        boolean empty(int rack) {
            return told("empty", rack).empty(rack);
        }

        int bead(int colour, boolean pearl) {
            return told("bead", colour, pearl).bead(colour, pearl);
        }

        boolean paint(int bead, int colour) {
            return told("paint", bead, colour).paint(bead, colour);
        }

        int colour(int bead) {
            return told("colour", bead).colour(bead);
        }

        boolean put(int rack, int p, long v) {
            return told("put", rack, p, v).put(rack, p, v);
        }

        long look(int rack, int p) {
            return told("look", rack, p).look(rack, p);
        }

        int move(int a, int i, int b, int j, int n) {
            return told("move", a, i, b, j, n).move(a, i, b, j, n);
        }

        int open(int rack, int p) {
            return told("open", rack, p).open(rack, p);
        }

        int close(int rack, int p) {
            return told("close", rack, p).close(rack, p);
        }

        int turn(int rack, int d) {
            return told("turn", rack, d).turn(rack, d);
        }

        int step(int a, int i, int b, int j, int n) {
            return told("step", a, i, b, j, n).step(a, i, b, j, n);
        }

        int forget() {
            return told("forget").forget();
        }

        int weave(int rounds, boolean whole) {
            return told("weave", rounds, whole).weave(rounds, whole);
        }

        int alike(int a, int b) {
            return told("alike", a, b).alike(a, b);
        }

        long shade(int rack) {
            return told("shade", rack).shade(rack);
        }

        int rack(int rack, int what) {
            return told("rack", rack, what).rack(rack, what);
        }

        int about(int what) {
            return told("about", what).about(what);
        }
    }

    private static void fault(String what) {
        wrong++;
        System.out.println("\"" + section + "\": " + what);
    }

    private static void due(long want, long got) {
        checks++;
        if (got != want) {
            fault(lastCall + " answered " + got + ", due is " + want);
        }
    }

    private static void due(boolean want, boolean got) {
        checks++;
        if (got != want) {
            fault(lastCall + " answered " + got + ", due is " + want);
        }
    }

    private static void sentence(String words, Runnable test) {
        section = words;
        QUOTED.add(words);
        int before = checks;
        try {
            test.run();
        } catch (RuntimeException thrown) {
            fault(lastCall + " threw " + thrown);
        }
        if (checks == before) {
            fault("nothing was checked");
        }
    }

    private static void row(Loom x, int rack, int kind, long... things) {
        due(true, x.make(rack, kind, things.length));
        for (int p = 0; p < things.length; p++) {
            due(true, x.put(rack, p, things[p]));
        }
    }

    private static void holds(Loom x, int rack, long... things) {
        due(things.length, x.rack(rack, 1));
        for (int p = 0; p < things.length; p++) {
            due(things[p], x.look(rack, p));
        }
    }

    private static void holds(Loom x, int rack, List<Long> things) {
        holds(x, rack, things.stream().mapToLong(Long::longValue).toArray());
    }

    /** CAME, how many were REFUSED by the reasons 1 to 4, and how many were done. */
    private static void counts(Loom x, int... want) {
        for (int what = 0; what < want.length; what++) {
            due(want[what], x.about(what));
        }
    }

    private static long blank(int kind) {
        return kind >= 7 ? NONE : 0;
    }

    /** Things that lie at the edge of what their KIND can hold, no two of a row the same (but truths). */
    private static long thing(int kind, int p) {
        long[] things = {0, -128L + p, -32768L + p, 65535L - p, (long) MIN + p, LMIN + p,
            p % 3 == 0 || p % 7 == 1 ? 1 : 0, p, p};
        return things[kind];
    }

    private static List<Long> things(int kind, int n) {
        List<Long> all = new ArrayList<>();
        for (int p = 0; p < n; p++) {
            all.add(thing(kind, p));
        }
        return all;
    }

    /** A loom with a row of n such things in a rack; its beads are pearls, so that they may lie in both. */
    private static Loom filled(int rack, int kind, int n) {
        Loom x = new Loom();
        for (int p = 0; p < n && kind >= 7; p++) {
            due(p, x.bead(100 + p, true));
        }
        due(true, x.make(rack, kind, n));
        for (int p = 0; p < n; p++) {
            due(true, x.put(rack, p, thing(kind, p)));
        }
        return x;
    }

    // ---- Terms: RACKS, KINDS, places ----

    private static void racks() {
        Loom x = new Loom();
        for (int r = 0; r <= 7; r++) {
            due(0, x.rack(r, 0));
            due(false, x.empty(r));
        }
        due(true, x.lamp(0));
        due(true, x.make(7, 1, 1));
        due(9, x.rack(0, 0));
        due(1, x.rack(7, 0));
        for (int r = 1; r <= 6; r++) {
            due(0, x.rack(r, 0));
        }
        for (int r : NO_RACKS) {
            due(false, x.lamp(r));
            due(false, x.make(r, 1, 1));
            due(NONE, x.rack(r, 0));
        }
        due(9, x.rack(0, 0));
        due(1, x.rack(7, 0));
    }

    private static void places() {
        for (int kind = 1; kind <= 8; kind++) {
            Loom x = new Loom();
            for (int n : new int[] {0, 1, 39, 40}) {
                due(true, x.make(3, kind, n));
                due(n, x.rack(3, 1));
                due(n > 0, x.put(3, 0, NONE));
                due(n > 0, x.put(3, n - 1, NONE));
                for (int p : new int[] {-1, n, n + 1, MAX, MIN}) {
                    due(false, x.put(3, p, NONE));
                    due(0, x.look(3, p));
                }
            }
            for (int n : new int[] {-1, 41, MAX, MIN}) {
                due(false, x.make(3, kind, n));
            }
            due(40, x.rack(3, 1));
        }
    }

    /** By one number that every KIND of numbers keeps otherwise. */
    private static void kinds() {
        long v = 0x180008080L;
        long[] kept = {0, -128, -32640, 32896, -2147450752L, v, 1, NONE, NONE};
        Loom x = new Loom();
        for (int kind = 1; kind <= 8; kind++) {
            due(true, x.make(0, kind, 1));
            due(kind, x.rack(0, 0));
            due(kind <= 6, x.put(0, 0, v));
            due(kept[kind], x.look(0, 0));
        }
        due(0, x.bead(1, false));
        due(false, x.put(0, 0, 0));
        due(true, x.make(0, 7, 1));
        due(true, x.put(0, 0, 0));
        for (int kind : new int[] {0, 9, -1, MAX, MIN}) {
            due(false, x.make(0, kind, 1));
        }
        due(7, x.rack(0, 0));
    }

    private static void keeps(int kind, long... pairs) {
        Loom x = new Loom();
        due(true, x.make(0, kind, 40));
        for (int k = 0; k < pairs.length; k += 2) {
            for (int p : new int[] {0, 39}) {
                due(true, x.put(0, p, pairs[k]));
                due(pairs[k + 1], x.look(0, p));
            }
        }
    }

    private static void lowestBits() {
        long v = 0x1234567890ABCDEFL;
        keeps(1, 127, 127, 128, -128, 255, -1, 256, 0, -128, -128, -129, 127, -256, 0, LMAX, -1, LMIN, 0, v, -17);
        keeps(2, 32767, 32767, 32768, -32768, 65535, -1, 65536, 0, -32768, -32768, -32769, 32767, -65536, 0,
            LMAX, -1, LMIN, 0, v, -12817);
        keeps(3, 32767, 32767, 32768, 32768, 65535, 65535, 65536, 0, -1, 65535, -32768, 32768, -65535, 1,
            -65536, 0, LMAX, 65535, LMIN, 0, v, 52719);
        keeps(4, MAX, MAX, MAX + 1L, MIN, TWO_TO_32 - 1, -1, TWO_TO_32, 0, MIN, MIN, MIN - 1L, MAX,
            -TWO_TO_32, 0, LMAX, -1, LMIN, 0, v, -1867788817L);
        keeps(5, MAX + 1L, MAX + 1L, TWO_TO_32, TWO_TO_32, MIN - 1L, MIN - 1L, LMAX, LMAX, LMIN, LMIN,
            LMAX - 1, LMAX - 1, LMIN + 1, LMIN + 1, -1, -1, 0, 0, v, v);
    }

    private static void truths() {
        keeps(6, 0, 0, 1, 1, 0, 0, -1, 1, 2, 1, 256, 1, 65536, 1, TWO_TO_32, 1, LMAX, 1, LMIN, 1, 0, 0);
    }

    private static void nothingOrABead() {
        Loom x = new Loom();
        due(0, x.bead(5, false));
        due(1, x.bead(6, true));
        row(x, 0, 7, NONE, 0, 1);
        holds(x, 0, NONE, 0, 1);
        due(false, x.put(0, 0, 2));
        due(false, x.put(0, 0, -2));
        holds(x, 0, NONE, 0, 1);
    }

    private static void nothingOrAPearl() {
        Loom x = new Loom();
        due(0, x.bead(5, false));
        due(1, x.bead(6, true));
        row(x, 0, 8, NONE, 1);
        due(false, x.put(0, 0, 0));
        due(false, x.put(0, 1, 0));
        due(false, x.put(0, 0, 2));
        holds(x, 0, NONE, 1);
    }

    private static void atFirst() {
        for (int kind = 1; kind <= 8; kind++) {
            Loom x = filled(0, kind, 40);
            for (int n : new int[] {40, 1}) {
                due(true, x.make(0, kind, n));
                for (int p = 0; p < n; p++) {
                    due(blank(kind), x.look(0, p));
                }
            }
            // A row that was short, and is long again, has none of the things of the first one.
            due(true, x.make(0, kind, 40));
            due(blank(kind), x.look(0, 39));
            int other = kind >= 7 ? 5 : 7;
            due(true, x.make(0, other, 40));
            due(blank(other), x.look(0, 0));
            due(blank(other), x.look(0, 39));
        }
    }

    // ---- Terms: BEADS ----

    private static void beadsAreAtMost200() {
        Loom x = new Loom();
        for (int k = 0; k < 200; k++) {
            due(k, x.bead(k, k % 2 == 1));
        }
        due(NONE, x.bead(7, false));
        due(NONE, x.bead(7, true));
        due(200, x.about(6));
        due(true, x.make(0, 8, 1));
        for (int k = 0; k < 200; k++) {
            due(k % 2 == 1, x.put(0, 0, k));
        }
        due(199, x.look(0, 0));
        due(false, x.put(0, 0, 200));
        due(199, x.colour(199));
        due(0, x.colour(200));
    }

    private static void coloursAreInts() {
        Loom x = new Loom();
        int[] colours = {MAX, MIN, 0, -1, 1, 65536};
        for (int k = 0; k < colours.length; k++) {
            due(k, x.bead(colours[k], k % 2 == 0));
        }
        for (int k = 0; k < colours.length; k++) {
            due(colours[k], x.colour(k));
            due(true, x.paint(k, ~colours[k]));
            due(~colours[k], x.colour(k));
        }
    }

    private static void oneBeadInSeveralPlaces() {
        Loom x = new Loom();
        due(0, x.bead(3, true));
        due(1, x.bead(50, true));
        due(true, x.make(0, 7, 40));
        due(true, x.put(0, 0, 0));
        due(true, x.put(0, 39, 0));
        row(x, 7, 8, 1, 0, 0, 0);
        due(6, x.shade(0));
        due(59, x.shade(7));
        due(true, x.paint(0, -4));
        due(-8, x.shade(0));
        due(38, x.shade(7));
        due(true, x.put(0, 0, NONE));
        due(0, x.look(0, 39));
        holds(x, 7, 1, 0, 0, 0);
        due(0, x.move(7, 1, 0, 10, 3));
        due(true, x.paint(0, MAX));
        due(4L * MAX, x.shade(0));
        due(3L * MAX + 50, x.shade(7));
    }

    // ---- Terms: MOVING ----

    private static void emptyIsTheFirstReason() {
        Loom x = new Loom();
        due(true, x.lamp(1));
        due(true, x.make(2, 4, 0));
        for (int other : new int[] {0, 1, 2}) {
            due(1, x.move(0, 0, other, 0, 0));
            due(1, x.move(other, 0, 0, 0, 0));
            due(1, x.move(0, MIN, other, MAX, -1));
            due(1, x.move(other, MAX, 0, MAX, MAX));
        }
        counts(x, 0, 12, 0, 0, 0, 0);
        // A row without places isn't EMPTY.
        due(0, x.move(2, 0, 2, 0, 0));
        due(true, x.empty(2));
        due(1, x.move(2, 0, 2, 0, 0));
        counts(x, 0, 13, 0, 0, 0, 1);
    }

    private static void lampIsTheSecondReason() {
        Loom x = new Loom();
        due(true, x.lamp(1));
        row(x, 2, 4, 7, 8);
        due(2, x.move(1, 0, 1, 0, 0));
        due(2, x.move(1, 0, 2, 0, 0));
        due(2, x.move(2, 0, 1, 0, 0));
        due(2, x.move(1, -1, 2, 0, 1));
        due(2, x.move(2, 0, 1, MAX, MIN));
        due(1, x.move(1, 0, 3, 0, 0));
        counts(x, 0, 1, 5, 0, 0, 0);
        due(0, x.move(2, 0, 2, 0, 2));
        holds(x, 2, 7, 8);
    }

    private static void unlikeKindsAreTheSecondReason() {
        for (int n : new int[] {0, 2}) {
            Loom x = new Loom();
            for (int kind = 1; kind <= 8; kind++) {
                due(true, x.make(kind - 1, kind, n));
            }
            for (int a = 1; a <= 8; a++) {
                for (int b = 1; b <= 8; b++) {
                    boolean like = a == b || a + b == 15;
                    due(like ? 0 : 2, x.move(a - 1, 0, b - 1, 0, n));
                    due(like ? 3 : 2, x.move(a - 1, -1, b - 1, n, n + 1));
                }
            }
            counts(x, 0, 0, 108, 10, 0, 10);
        }
    }

    private static void thirdReasonAtTheEnds() {
        Loom x = new Loom();
        due(true, x.make(0, 4, 40));
        due(true, x.make(7, 4, 40));
        int[][] inside = {{0, 0, 40}, {0, 0, 0}, {40, 40, 0}, {39, 39, 1}, {0, 39, 1}, {39, 0, 1}, {1, 0, 39},
            {0, 1, 39}, {40, 0, 0}, {0, 40, 0}, {20, 20, 20}};
        for (int[] m : inside) {
            due(0, x.move(0, m[0], 7, m[1], m[2]));
            due(0, x.move(0, m[0], 0, m[1], m[2]));
        }
        int[][] outside = {{0, 0, 41}, {1, 0, 40}, {0, 1, 40}, {41, 0, 0}, {0, 41, 0}, {40, 0, 1}, {0, 40, 1},
            {39, 0, 2}, {0, 39, 2}, {-1, 0, 1}, {0, -1, 1}, {0, 0, -1}, {-1, 0, 0}, {0, -1, 0}, {40, 40, -1},
            {-1, -1, -1}, {41, 41, -1}, {20, 20, 21}};
        for (int[] m : outside) {
            due(3, x.move(0, m[0], 7, m[1], m[2]));
            due(3, x.move(0, m[0], 0, m[1], m[2]));
        }
        counts(x, 0, 0, 0, 2 * outside.length, 0, 2 * inside.length);
    }

    private static boolean isInside(long start, long n, int places) {
        return start >= 0 && n >= 0 && start + n <= places;
    }

    private static void sumsWithoutAnyBound() {
        int[] edges = {MIN, MIN + 1, MIN + 3, -3, -1, 0, 1, 2, 3, 4, 5, 6, 40, MAX - 3, MAX - 1, MAX};
        for (int i : edges) {
            for (int j : edges) {
                Loom x = new Loom();
                row(x, 0, 4, 1, 2, 3, 4, 5);
                due(true, x.make(1, 4, 3));
                int done = 0;
                for (int n : edges) {
                    boolean inside = isInside(i, n, 5) && isInside(j, n, 3);
                    due(inside ? 0 : 3, x.move(0, i, 1, j, n));
                    due(inside ? n : 0, x.about(0));
                    done += inside ? 1 : 0;
                }
                due(done, x.about(5));
                due(edges.length - done, x.about(3));
                holds(x, 0, 1, 2, 3, 4, 5);
            }
        }
    }

    private static void byTheseNothingIsChanged() {
        Loom x = new Loom();
        row(x, 0, 4, 1, 2, 3);
        row(x, 1, 4, 4, 5, 6);
        row(x, 2, 5, 7, 8, 9);
        due(true, x.lamp(3));
        due(1, x.move(0, 0, 4, 0, 3));
        due(1, x.move(4, 0, 0, 0, 3));
        due(2, x.move(0, 0, 2, 0, 3));
        due(2, x.move(2, 0, 0, 0, 3));
        due(2, x.move(0, 0, 3, 0, 3));
        due(2, x.move(3, 0, 0, 0, 3));
        // Of these some things would have room, but none comes.
        due(3, x.move(0, 1, 1, 0, 3));
        due(3, x.move(0, 0, 1, 1, 3));
        due(3, x.move(0, 2, 0, 1, 3));
        due(3, x.move(1, -1, 0, 0, 2));
        holds(x, 0, 1, 2, 3);
        holds(x, 1, 4, 5, 6);
        holds(x, 2, 7, 8, 9);
        due(9, x.rack(3, 0));
        due(0, x.rack(4, 0));
    }

    private static void movesWithin(int kind, int i, int j, int n) {
        Loom x = filled(6, kind, 40);
        List<Long> before = things(kind, 40);
        List<Long> after = new ArrayList<>(before);
        for (int k = 0; k < n; k++) {
            after.set(j + k, before.get(i + k));
        }
        due(0, x.move(6, i, 6, j, n));
        holds(x, 6, after);
    }

    private static void eachAsItWasAheadOfAll() {
        int[][] stretches = {{0, 1, 39}, {1, 0, 39}, {0, 39, 1}, {39, 0, 1}, {0, 0, 40}, {0, 20, 20},
            {20, 0, 20}, {5, 8, 30}, {8, 5, 30}, {0, 2, 38}, {40, 0, 0}};
        for (int kind = 1; kind <= 8; kind++) {
            for (int[] s : stretches) {
                movesWithin(kind, s[0], s[1], s[2]);
            }
        }
    }

    private static void fromRackToRack() {
        for (int kind = 1; kind <= 8; kind++) {
            Loom x = filled(0, kind, 40);
            due(true, x.make(7, kind, 40));
            due(0, x.move(0, 1, 7, 0, 39));
            List<Long> moved = things(kind, 40);
            moved.remove(0);
            moved.add(blank(kind));
            holds(x, 7, moved);
            holds(x, 0, things(kind, 40));
            // The rows are not bound to one another by that.
            due(true, x.put(0, 5, kind >= 7 ? NONE : 1));
            due(thing(kind, 5), x.look(7, 4));
        }
    }

    /** 40 pearls in rack 0, all number 1, but for bead 0 at one place; 40 pearls 2 in rack 1. */
    private static Loom beadAmongPearls(int place) {
        Loom x = new Loom();
        due(0, x.bead(1, false));
        due(1, x.bead(2, true));
        due(2, x.bead(3, true));
        due(true, x.make(0, 7, 40));
        due(true, x.make(1, 8, 40));
        for (int p = 0; p < 40; p++) {
            due(true, x.put(0, p, p == place ? 0 : 1));
            due(true, x.put(1, p, 2));
        }
        return x;
    }

    private static void holdsOnesUpTo(Loom x, int ones) {
        for (int p = 0; p < 40; p++) {
            due(p < ones ? 1 : 2, x.look(1, p));
        }
    }

    private static void upToTheFirstBead() {
        for (int place : new int[] {0, 1, 20, 38, 39}) {
            Loom x = beadAmongPearls(place);
            due(4, x.move(0, 0, 1, 0, 40));
            due(4, x.move(0, place, 1, 0, 40 - place));
            due(4, x.move(0, 0, 1, 0, place + 1));
            due(4, x.move(0, place, 1, 0, 1));
            counts(x, 0, 0, 0, 0, 4, 0);
            // The stretch that ends just ahead of the bead, and the one that begins just behind it.
            due(0, x.move(0, 0, 1, 0, place));
            counts(x, place, 0, 0, 0, 4, 1);
            due(0, x.move(0, place + 1, 1, 0, 39 - place));
            counts(x, 39 - place, 0, 0, 0, 4, 2);
            // Where b has beads, and where a has pearls, none is asked for.
            due(true, x.make(2, 7, 40));
            due(0, x.move(0, 0, 2, 0, 40));
            due(0, x.look(2, place));
            due(0, x.move(1, 0, 0, 0, 40));
            counts(x, 40, 0, 0, 0, 4, 4);
        }
    }

    private static void thoseAheadCameAndStay() {
        for (int place : new int[] {0, 1, 20, 38, 39}) {
            Loom x = beadAmongPearls(place);
            due(4, x.move(0, 0, 1, 0, 40));
            due(place, x.about(0));
            holdsOnesUpTo(x, place);
            due(4, x.move(0, place, 1, 0, 40 - place));
            due(0, x.about(0));
            holdsOnesUpTo(x, place);
            for (int p = 0; p < 40; p++) {
                due(p == place ? 0 : 1, x.look(0, p));
            }
        }
        Loom x = new Loom();
        due(0, x.bead(1, false));
        due(1, x.bead(2, true));
        row(x, 0, 7, 1, 1, 0, 1, 0);
        row(x, 1, 8, NONE, NONE, NONE, NONE, NONE);
        due(4, x.move(0, 1, 1, 2, 3));
        due(1, x.about(0));
        holds(x, 1, NONE, NONE, 1, NONE, NONE);
    }

    private static void nothingMayComeToAny() {
        Loom x = new Loom();
        due(0, x.bead(1, false));
        due(1, x.bead(2, true));
        row(x, 0, 7, NONE, 1, NONE, 0, NONE);
        row(x, 1, 8, 1, 1, 1, 1, 1);
        due(4, x.move(0, 0, 1, 0, 5));
        counts(x, 3, 0, 0, 0, 1, 0);
        holds(x, 1, NONE, 1, NONE, 1, 1);
        due(0, x.move(0, 4, 1, 4, 1));
        holds(x, 1, NONE, 1, NONE, 1, NONE);
        // To beads all may come, from beads and from pearls.
        row(x, 2, 7, 1, 1, 1, 1, 1);
        due(0, x.move(0, 0, 2, 0, 5));
        holds(x, 2, NONE, 1, NONE, 0, NONE);
        due(0, x.move(1, 0, 2, 0, 5));
        holds(x, 2, NONE, 1, NONE, 1, NONE);
        // The third reason is asked ahead of the fourth.
        due(3, x.move(0, 3, 1, 0, 3));
        due(3, x.move(0, 3, 1, 4, 2));
        counts(x, 0, 0, 0, 2, 1, 3);
    }

    private static void cameIsOfTheLatestMoving() {
        Loom x = beadAmongPearls(30);
        due(0, x.about(0));
        due(0, x.move(1, 0, 1, 0, 40));
        due(40, x.about(0));
        due(1, x.move(0, 0, 2, 0, 1));
        due(0, x.about(0));
        due(0, x.move(1, 0, 1, 0, 39));
        due(39, x.about(0));
        due(true, x.lamp(2));
        due(2, x.move(0, 0, 2, 0, 1));
        due(0, x.about(0));
        due(0, x.move(0, 7, 0, 0, 1));
        due(1, x.about(0));
        due(3, x.move(0, 7, 0, 0, 34));
        due(0, x.about(0));
        due(4, x.move(0, 10, 1, 0, 30));
        due(20, x.about(0));
        due(NONE, x.move(0, 0, 8, 0, 1));
        due(NONE, x.move(-1, 0, 0, 0, 1));
        due(20, x.about(0));
        due(0, x.move(0, 40, 0, 40, 0));
        due(0, x.about(0));
    }

    // ---- Terms: OPEN, CLOSE, TURNING ----

    private static int[] placesOf(int n) {
        return n == 1 ? new int[] {0} : n == 2 ? new int[] {0, 1} : new int[] {0, 1, n / 2, n - 2, n - 1};
    }

    private static void openMoves() {
        for (int kind = 1; kind <= 8; kind++) {
            for (int n : new int[] {1, 2, 3, 40}) {
                for (int p : placesOf(n)) {
                    Loom x = filled(5, kind, n);
                    List<Long> after = things(kind, n);
                    after.add(p, blank(kind));
                    after.remove(n);
                    due(0, x.open(5, p));
                    counts(x, n - 1 - p, 0, 0, 0, 0, 1);
                    holds(x, 5, after);
                }
            }
        }
    }

    private static void closeMoves() {
        for (int kind = 1; kind <= 8; kind++) {
            for (int n : new int[] {1, 2, 3, 40}) {
                for (int p : placesOf(n)) {
                    Loom x = filled(5, kind, n);
                    List<Long> after = things(kind, n);
                    after.remove(p);
                    after.add(blank(kind));
                    due(0, x.close(5, p));
                    counts(x, n - 1 - p, 0, 0, 0, 0, 1);
                    holds(x, 5, after);
                }
            }
        }
    }

    private static int[] beyond(int n) {
        return new int[] {-1, -2, n, n + 1, MAX, MAX - 1, MIN, MIN + 1, MIN + n, -n - 1};
    }

    /** Whatever lies ahead of and behind it; beyond its places a row stays as it is. */
    private static void placeIsBlankAfterOpen() {
        for (int kind = 1; kind <= 8; kind++) {
            for (int p : new int[] {0, 1, 38, 39}) {
                Loom x = filled(0, kind, 40);
                due(0, x.open(0, p));
                due(blank(kind), x.look(0, p));
                due(p == 0 ? blank(kind) : thing(kind, 0), x.look(0, 0));
                due(p == 39 ? blank(kind) : thing(kind, 38), x.look(0, 39));
            }
        }
        beyondChangesNothing(x -> x::open);
    }

    private static void lastPlaceIsBlankAfterClose() {
        for (int kind = 1; kind <= 8; kind++) {
            for (int p : new int[] {0, 1, 38, 39}) {
                Loom x = filled(0, kind, 40);
                due(0, x.close(0, p));
                due(blank(kind), x.look(0, 39));
                due(thing(kind, p >= 38 ? 37 : 38), x.look(0, 37));
                due(thing(kind, p == 0 ? 1 : 0), x.look(0, 0));
            }
        }
        beyondChangesNothing(x -> x::close);
    }

    private static void beyondChangesNothing(Function<Loom, IntBinaryOperator> callOf) {
        for (int kind = 1; kind <= 8; kind++) {
            for (int n : new int[] {0, 1, 2, 39, 40}) {
                Loom x = filled(5, kind, n);
                for (int p : beyond(n)) {
                    due(3, callOf.apply(x).applyAsInt(5, p));
                }
                counts(x, 0, 0, 0, beyond(n).length, 0, 0);
                holds(x, 5, things(kind, n));
            }
        }
    }

    private static void turns(int n, int d) {
        Loom x = filled(2, 5, n);
        Long[] after = new Long[n];
        for (int p = 0; p < n; p++) {
            long remainder = ((long) p + d) % n;
            after[(int) (remainder < 0 ? remainder + n : remainder)] = thing(5, p);
        }
        due(0, x.turn(2, d));
        holds(x, 2, List.of(after));
    }

    private static void turnsByAllThatAnIntHolds() {
        for (int n = 0; n <= 40; n++) {
            for (int d : new int[] {0, 1, -1, n - 1, n, n + 1, -n + 1, -n, -n - 1, 3 * n + 2, -3 * n - 2, 1000003,
                MAX, MAX - 1, MAX - n, MIN, MIN + 1, MIN + n}) {
                turns(n, d);
            }
        }
    }

    /** The same with its answers written out. */
    private static void turnsOfThreePlaces() {
        Loom x = new Loom();
        row(x, 0, 1, 1, 2, 3);
        row(x, 1, 1, 1, 2, 3);
        due(0, x.turn(0, 1));
        holds(x, 0, 3, 1, 2);
        due(0, x.turn(0, -1));
        holds(x, 0, 1, 2, 3);
        due(0, x.turn(0, 3));
        due(0, x.turn(0, -3));
        holds(x, 0, 1, 2, 3);
        // 2147483647 is 1, and -2147483648 is 1 too, above a multiple of 3.
        due(0, x.turn(0, MAX));
        holds(x, 0, 3, 1, 2);
        due(0, x.turn(0, MIN));
        holds(x, 0, 2, 3, 1);
        holds(x, 1, 1, 2, 3);
        for (int kind = 1; kind <= 8; kind++) {
            Loom y = filled(7, kind, 4);
            due(0, y.turn(7, -1));
            holds(y, 7, thing(kind, 1), thing(kind, 2), thing(kind, 3), thing(kind, 0));
        }
    }

    private static void turningIsNoMoving() {
        Loom x = new Loom();
        row(x, 0, 4, 1, 2, 3);
        due(0, x.move(0, 0, 0, 0, 2));
        due(0, x.turn(0, 1));
        due(0, x.turn(0, MIN));
        due(1, x.turn(1, 1));
        due(true, x.lamp(2));
        due(2, x.turn(2, 1));
        due(NONE, x.turn(8, 1));
        counts(x, 2, 0, 0, 0, 0, 1);
    }

    // ---- Terms: PATTERN, WEAVING ----

    private static void patternOf24Steps() {
        Loom x = new Loom();
        due(0, x.about(7));
        due(NONE, x.weave(1, false));
        due(0, x.forget());
        for (int k = 0; k < 40; k++) {
            due(k < 24 ? k + 1 : NONE, x.step(k % 8, 0, 0, 0, 0));
            due(Math.min(k + 1, 24), x.about(7));
        }
        due(24, x.forget());
        due(1, x.step(7, 0, 7, 0, 0));
        due(1, x.about(7));
    }

    private static void all24StepsAreKept() {
        Loom x = filled(0, 5, 24);
        due(true, x.make(1, 5, 24));
        for (int k = 0; k < 24; k++) {
            due(k + 1, x.step(0, k, 1, 23 - k, 1));
        }
        due(NONE, x.step(0, 0, 1, 0, 24));
        due(24, x.weave(1, true));
        for (int k = 0; k < 24; k++) {
            due(thing(5, k), x.look(1, 23 - k));
        }
    }

    private static void fiveNumbersOfAStep() {
        Loom x = new Loom();
        row(x, 1, 2, 10, 11, 12, 13, 14, 15, 16, 17, 18);
        due(true, x.make(3, 2, 9));
        due(1, x.step(1, 2, 3, 4, 5));
        holds(x, 3, 0, 0, 0, 0, 0, 0, 0, 0, 0);
        due(1, x.weave(1, false));
        holds(x, 3, 0, 0, 0, 0, 12, 13, 14, 15, 16);
        due(5, x.about(0));
        int[][] edges = {{MAX, 0, MAX}, {MAX, 0, 1}, {0, MAX, 1}, {0, MAX, MAX}, {1, 1, MAX}, {MIN, 0, 1},
            {0, MIN, 1}, {0, 0, MIN}, {MIN, 0, MAX}, {0, MIN, MIN}};
        for (int[] e : edges) {
            x.forget();
            due(1, x.step(1, e[0], 3, e[1], e[2]));
            due(0, x.weave(1, false));
        }
        counts(x, 0, 0, 0, edges.length, 0, 1);
        holds(x, 3, 0, 0, 0, 0, 12, 13, 14, 15, 16);
    }

    private static void stepsInTheirOrder() {
        Loom x = new Loom();
        row(x, 0, 4, 5);
        row(x, 1, 4, 6);
        row(x, 2, 4, 7);
        due(1, x.step(0, 0, 1, 0, 1));
        due(2, x.step(1, 0, 2, 0, 1));
        due(2, x.weave(1, false));
        holds(x, 2, 5);
        due(true, x.put(1, 0, 6));
        due(2, x.forget());
        due(1, x.step(1, 0, 2, 0, 1));
        due(2, x.step(0, 0, 1, 0, 1));
        due(2, x.weave(1, false));
        holds(x, 1, 5);
        holds(x, 2, 6);
        due(2, x.weave(1, false));
        holds(x, 2, 5);
    }

    /** Each ROUND, the 1 of place 0 comes one place farther. */
    private static void roundsSoOftenAsIsTold() {
        for (int rounds : new int[] {1, 2, 38, 39, 40, 49, 50}) {
            for (int whole = 0; whole <= 1; whole++) {
                Loom x = new Loom();
                due(true, x.make(0, 4, 40));
                due(true, x.put(0, 0, 1));
                due(1, x.step(0, 0, 0, 1, 39));
                due(rounds, x.weave(rounds, whole == 1));
                due(Math.min(rounds + 1, 40), x.shade(0));
                counts(x, 39, 0, 0, 0, 0, rounds);
                due(rounds, x.about(8));
            }
        }
    }

    /** Three racks of one place; the third of four steps is REFUSED by one of the reasons. */
    private static Loom refusedAtThirdStep(int reason) {
        Loom x = new Loom();
        due(0, x.bead(1, false));
        due(1, x.bead(2, true));
        row(x, 0, 7, 0, 1);
        row(x, 1, 7, 1, 1);
        due(true, x.make(2, 8, 2));
        due(true, reason == 1 || (reason == 2 ? x.lamp(3) : x.make(3, 8, reason == 3 ? 1 : 2)));
        due(1, x.step(0, 0, 1, 1, 1));
        due(2, x.step(1, 0, 2, 0, 1));
        due(3, x.step(1, 0, 3, 0, 2));
        due(4, x.step(1, 0, 2, 1, 1));
        return x;
    }

    private static void refusedOnce(Loom x, int reason) {
        due(reason == 4 ? 1 : 0, x.about(0));
        for (int r = 1; r <= 4; r++) {
            due(r == reason ? 1 : 0, x.about(r));
        }
        due(2, x.about(5));
        due(0, x.about(8));
    }

    private static void upToTheFirstRefused() {
        for (int reason = 1; reason <= 4; reason++) {
            Loom x = refusedAtThirdStep(reason);
            due(2, x.weave(50, false));
            holds(x, 0, 0, 1);
            holds(x, 1, 1, 0);
            holds(x, 2, 1, NONE);
            // Ahead of the bead a pearl came, by the fourth reason alone.
            due(reason == 4 ? 1 : reason == 3 ? NONE : 0, x.look(3, 0));
            refusedOnce(x, reason);
        }
    }

    private static void wholeTakesTheRoundBack() {
        for (int reason = 1; reason <= 4; reason++) {
            Loom x = refusedAtThirdStep(reason);
            due(0, x.weave(50, true));
            holds(x, 0, 0, 1);
            holds(x, 1, 1, 1);
            holds(x, 2, NONE, NONE);
            due(reason >= 3 ? NONE : 0, x.look(3, 0));
            refusedOnce(x, reason);
            due(2, x.about(6));
            due(4, x.about(7));
        }
    }

    /**
     * A belt of two racks that goes on by one place in each ROUND; what comes to its end is moved to a
     * rack of pearls, which refuses the one bead that isn't one: in ROUND 40 if that lay at place 0.
     */
    private static Loom belt(int place) {
        Loom x = new Loom();
        due(0, x.bead(1, false));
        due(1, x.bead(2, true));
        due(true, x.make(0, 7, 40));
        due(true, x.make(1, 7, 40));
        due(true, x.make(2, 8, 1));
        for (int p = 0; p < 40; p++) {
            due(true, x.put(0, p, p == place ? 0 : p % 2 == 0 ? 1 : NONE));
        }
        due(1, x.step(1, 1, 1, 0, 39));
        due(2, x.step(0, 0, 1, 39, 1));
        due(3, x.step(0, 1, 0, 0, 39));
        due(4, x.step(1, 0, 2, 0, 1));
        return x;
    }

    private static List<Long> rows(Loom x) {
        List<Long> all = new ArrayList<>();
        for (int r = 0; r <= 7; r++) {
            all.add((long) x.rack(r, 0));
            int places = x.rack(r, 1);
            all.add((long) places);
            for (int p = 0; p < places; p++) {
                all.add(x.look(r, p));
            }
        }
        return all;
    }

    private static void same(String what, List<Long> want, List<Long> got) {
        checks++;
        if (!want.equals(got)) {
            fault(what + ": " + got + ", due is " + want);
        }
    }

    private static void refusedInRound(int round, boolean whole) {
        Loom x = belt(round - 40);
        int ended = round - 1;
        due(whole ? 4 * ended : 4 * ended + 3, x.weave(50, whole));
        counts(x, 0, 0, 0, 0, 1, 4 * ended + 3);
        due(ended, x.about(8));
        Loom y = belt(round - 40);
        due(4 * ended, y.weave(ended, false));
        if (!whole) {
            due(0, y.move(1, 1, 1, 0, 39));
            due(0, y.move(0, 0, 1, 39, 1));
            due(0, y.move(0, 1, 0, 0, 39));
        }
        same("refused in round " + round, rows(y), rows(x));
    }

    private static void onlyThatRoundIsTakenBack() {
        for (int round : new int[] {40, 41, 45, 49, 50}) {
            refusedInRound(round, true);
            refusedInRound(round, false);
        }
        // One place farther, and it is the next weaving that is refused.
        for (int whole = 0; whole <= 1; whole++) {
            Loom x = belt(11);
            due(200, x.weave(50, whole == 1));
            counts(x, 1, 0, 0, 0, 0, 200);
            due(50, x.about(8));
            due(whole == 1 ? 0 : 3, x.weave(1, whole == 1));
            counts(x, 0, 0, 0, 0, 1, 203);
            due(50, x.about(8));
        }
    }

    /** All racks are changed by a ROUND, at their first and their last place, and all are as they were. */
    private static void whatAllRowsHold() {
        for (int kind = 1; kind <= 8; kind++) {
            Loom x = new Loom();
            for (int k = 0; k < 16; k++) {
                due(k, x.bead(k, true));
            }
            for (int r = 0; r <= 7; r++) {
                due(true, x.make(r, kind, r == 0 ? 40 : r + 2));
                due(true, x.put(r, 0, thing(kind, r)));
                due(true, x.put(r, x.rack(r, 1) - 1, thing(kind, 8 + r)));
                due(r + 1, x.step(r, 0, r, 1, 1));
            }
            for (int r = 0; r <= 7; r++) {
                int last = r == 0 ? 39 : r + 1;
                due(9 + r, x.step(r, 1, r, last, 1));
            }
            due(17, x.step(0, 0, 0, 0, 41));
            List<Long> before = rows(x);
            due(0, x.weave(1, true));
            same("taken back", before, rows(x));
            counts(x, 0, 0, 0, 1, 0, 16);
            due(16, x.weave(1, false));
            due(thing(kind, 7), x.look(7, 8));
            due(thing(kind, 0), x.look(0, 39));
        }
    }

    // ---- Terms: ALIKE, SHADE ----

    private static void alikeAtOnePlace(int want, int kind, long v, int other, long w) {
        Loom x = new Loom();
        due(0, x.bead(9, true));
        due(1, x.bead(9, true));
        row(x, 0, kind, v);
        row(x, 7, other, w);
        due(want, x.alike(0, 7));
        due(want, x.alike(7, 0));
    }

    private static void alikeNumbers() {
        for (int kind = 1; kind <= 5; kind++) {
            for (int other = 1; other <= 5; other++) {
                alikeAtOnePlace(1, kind, 0, other, 0);
                alikeAtOnePlace(1, kind, 127, other, 127);
                alikeAtOnePlace(0, kind, 127, other, 126);
                alikeAtOnePlace((kind == 3) == (other == 3) ? 1 : 0, kind, -1, other, -1);
            }
        }
        alikeAtOnePlace(1, 1, -128, 5, -128);
        alikeAtOnePlace(0, 1, 128, 2, 128);
        alikeAtOnePlace(1, 3, 65535, 4, 65535);
        alikeAtOnePlace(0, 3, 65535, 2, 65535);
        alikeAtOnePlace(1, 4, MIN, 5, MIN);
        alikeAtOnePlace(1, 4, MAX, 5, MAX);
        alikeAtOnePlace(0, 4, MAX + 1L, 5, MAX + 1L);
        alikeAtOnePlace(0, 4, 0, 5, TWO_TO_32);
        alikeAtOnePlace(0, 3, 1, 5, TWO_TO_32 + 1);
        alikeAtOnePlace(0, 5, 0, 5, LMIN);
        alikeAtOnePlace(1, 5, LMIN, 5, LMIN);
        alikeAtOnePlace(1, 5, LMAX, 5, LMAX);
        alikeAtOnePlace(0, 5, LMAX, 5, LMIN);
        alikeAtOnePlace(0, 5, LMAX, 4, -1);
    }

    private static void alikeTruths() {
        alikeAtOnePlace(1, 6, 0, 6, 0);
        alikeAtOnePlace(1, 6, LMIN, 6, LMAX);
        alikeAtOnePlace(0, 6, 0, 6, 1);
        for (int kind = 1; kind <= 5; kind++) {
            alikeAtOnePlace(0, 6, 0, kind, 0);
            alikeAtOnePlace(0, 6, 1, kind, 1);
        }
    }

    private static void alikeBeads() {
        for (int kind = 7; kind <= 8; kind++) {
            for (int other = 7; other <= 8; other++) {
                alikeAtOnePlace(1, kind, NONE, other, NONE);
                alikeAtOnePlace(1, kind, 0, other, 0);
                alikeAtOnePlace(1, kind, 1, other, 1);
                // Of one colour, but not the same.
                alikeAtOnePlace(0, kind, 0, other, 1);
                alikeAtOnePlace(0, kind, NONE, other, 0);
            }
            for (int other = 1; other <= 6; other++) {
                alikeAtOnePlace(0, kind, NONE, other, -1);
                alikeAtOnePlace(0, kind, NONE, other, 0);
                alikeAtOnePlace(0, kind, 0, other, 0);
                alikeAtOnePlace(0, kind, 1, other, 1);
            }
        }
    }

    private static void shades(long want, int kind, long v, int often) {
        Loom x = new Loom();
        due(true, x.make(4, kind, 40));
        for (int p = 0; p < often; p++) {
            due(true, x.put(4, 39 - p, v));
        }
        due(want, x.shade(4));
    }

    private static void shadeOfNumbers() {
        shades(40 * -128, 1, -128, 40);
        shades(40 * 127, 1, 127, 40);
        shades(39 * -32768, 2, -32768, 39);
        shades(40 * 65535, 3, -1, 40);
        shades(40L * MAX, 4, MAX, 40);
        shades(40L * MIN, 4, MIN, 40);
        shades(40L * MAX + 40, 5, MAX + 1L, 40);
        shades(0, 5, 7, 0);
        Loom x = new Loom();
        row(x, 0, 4, MAX, MIN, -5, 9);
        due(3, x.shade(0));
        due(true, x.make(0, 5, 0));
        due(0, x.shade(0));
    }

    private static void shadeWraps() {
        shades(LMAX, 5, LMAX, 1);
        shades(-2, 5, LMAX, 2);
        shades(-40, 5, LMAX, 40);
        shades(LMIN, 5, LMIN, 1);
        shades(0, 5, LMIN, 2);
        shades(LMIN, 5, LMIN, 39);
        Loom x = new Loom();
        row(x, 0, 5, LMAX - 1, 1);
        due(LMAX, x.shade(0));
        row(x, 0, 5, LMAX, 1);
        due(LMIN, x.shade(0));
        row(x, 0, 5, LMIN, -1);
        due(LMAX, x.shade(0));
        row(x, 0, 5, LMIN, LMAX);
        due(-1, x.shade(0));
    }

    private static void shadeOfTruths() {
        shades(0, 6, 1, 0);
        shades(1, 6, LMIN, 1);
        shades(39, 6, 2, 39);
        shades(40, 6, -1, 40);
        shades(0, 6, 0, 40);
    }

    private static void shadeOfBeads() {
        for (int kind = 7; kind <= 8; kind++) {
            for (int colour : new int[] {MAX, MIN, -1, 0, 1}) {
                Loom x = new Loom();
                due(0, x.bead(5, true));
                due(1, x.bead(colour, true));
                due(true, x.make(7, kind, 40));
                due(0, x.shade(7));
                for (int p = 0; p < 40; p++) {
                    due(true, x.put(7, p, 1));
                }
                due(40L * colour, x.shade(7));
                due(true, x.put(7, 39, 0));
                due(39L * colour + 5, x.shade(7));
                due(true, x.put(7, 0, NONE));
                due(38L * colour + 5, x.shade(7));
            }
        }
    }

    // ---- Terms: what answers NONE, or false ----

    /** Racks of all sorts, beads, a PATTERN, and every count above 0. */
    private static Loom inUse() {
        Loom x = new Loom();
        due(0, x.bead(11, false));
        due(1, x.bead(12, true));
        row(x, 0, 4, 1, 2, 3);
        row(x, 1, 7, 0, NONE, 1);
        row(x, 2, 8, 1, NONE, 1);
        due(true, x.lamp(3));
        due(true, x.make(5, 5, 0));
        row(x, 6, 6, 1, 0);
        row(x, 7, 1, -128, 5, 127);
        due(1, x.move(4, 0, 0, 0, 0));
        due(2, x.move(3, 0, 0, 0, 0));
        due(3, x.move(0, 0, 0, 2, 2));
        due(4, x.move(1, 0, 2, 0, 3));
        due(1, x.step(0, 0, 0, 1, 2));
        due(2, x.step(1, 1, 2, 0, 2));
        due(2, x.weave(1, true));
        return x;
    }

    private static Loom full() {
        Loom x = new Loom();
        for (int k = 0; k < 200; k++) {
            x.bead(k, true);
        }
        row(x, 0, 8, 0, 199);
        for (int k = 0; k < 24; k++) {
            due(k + 1, x.step(0, k % 2, 0, 1 - k % 2, 1));
        }
        return x;
    }

    /** All that can be read; the STEPS are seen by what they do. */
    private static List<Long> everything(Loom x) {
        List<Long> all = new ArrayList<>();
        for (int what = 0; what <= 8; what++) {
            all.add((long) x.about(what));
        }
        for (int bead : new int[] {0, 1, 2, 198, 199}) {
            all.add((long) x.colour(bead));
        }
        all.addAll(rows(x));
        all.add((long) x.weave(2, false));
        all.addAll(rows(x));
        for (int what = 0; what <= 8; what++) {
            all.add((long) x.about(what));
        }
        return all;
    }

    private static void changesNothing(Supplier<Loom> standing, Consumer<Loom> call) {
        Loom x = standing.get();
        call.accept(x);
        String told = lastCall;
        same("after " + told, everything(standing.get()), everything(x));
    }

    private static void makeThatIsFalse() {
        for (int bad : new int[] {MIN, -1, MAX}) {
            changesNothing(SentencesTest::inUse, x -> due(false, x.make(bad, 4, 3)));
            changesNothing(SentencesTest::inUse, x -> due(false, x.make(0, bad, 3)));
            changesNothing(SentencesTest::inUse, x -> due(false, x.make(0, 4, bad)));
        }
        changesNothing(SentencesTest::inUse, x -> due(false, x.make(8, 4, 3)));
        changesNothing(SentencesTest::inUse, x -> due(false, x.make(0, 0, 3)));
        changesNothing(SentencesTest::inUse, x -> due(false, x.make(0, 9, 3)));
        changesNothing(SentencesTest::inUse, x -> due(false, x.make(0, 4, 41)));
    }

    private static void otherFalseOnes() {
        for (int bad : NO_RACKS) {
            changesNothing(SentencesTest::inUse, x -> due(false, x.lamp(bad)));
            changesNothing(SentencesTest::inUse, x -> due(false, x.empty(bad)));
            changesNothing(SentencesTest::inUse, x -> due(false, x.paint(bad, 99)));
            changesNothing(SentencesTest::inUse, x -> due(false, x.put(bad, 0, 1)));
            changesNothing(SentencesTest::inUse, x -> due(false, x.put(0, bad, 1)));
            changesNothing(SentencesTest::inUse, x -> due(false, x.put(1, bad, 1)));
        }
        changesNothing(SentencesTest::inUse, x -> due(false, x.empty(4)));
        changesNothing(SentencesTest::inUse, x -> due(false, x.paint(2, 99)));
        changesNothing(SentencesTest::full, x -> due(false, x.paint(200, 99)));
        for (int rack = 3; rack <= 5; rack++) {
            int without = rack;
            changesNothing(SentencesTest::inUse, x -> due(false, x.put(without, 0, 1)));
        }
        for (long bad : new long[] {-2, 2, LMAX, LMIN, TWO_TO_32, TWO_TO_32 + 1, TWO_TO_32 - 1}) {
            changesNothing(SentencesTest::inUse, x -> due(false, x.put(1, 0, bad)));
            changesNothing(SentencesTest::inUse, x -> due(false, x.put(2, 0, bad)));
        }
        changesNothing(SentencesTest::inUse, x -> due(false, x.put(2, 0, 0)));
        changesNothing(SentencesTest::full, x -> due(false, x.put(0, 0, 200)));
    }

    private static void thoseThatAnswerNone() {
        for (int bad : NO_RACKS) {
            changesNothing(SentencesTest::inUse, x -> due(NONE, x.move(bad, 0, 0, 0, 1)));
            changesNothing(SentencesTest::inUse, x -> due(NONE, x.move(0, 0, bad, 0, 1)));
            changesNothing(SentencesTest::inUse, x -> due(NONE, x.open(bad, 0)));
            changesNothing(SentencesTest::inUse, x -> due(NONE, x.close(bad, 0)));
            changesNothing(SentencesTest::inUse, x -> due(NONE, x.turn(bad, 1)));
            changesNothing(SentencesTest::inUse, x -> due(NONE, x.step(bad, 0, 0, 0, 1)));
            changesNothing(SentencesTest::inUse, x -> due(NONE, x.step(0, 0, bad, 0, 1)));
            changesNothing(SentencesTest::inUse, x -> due(NONE, x.alike(bad, 0)));
            changesNothing(SentencesTest::inUse, x -> due(NONE, x.rack(bad, 0)));
            changesNothing(SentencesTest::inUse, x -> due(NONE, x.rack(0, bad)));
        }
        for (int bad : new int[] {0, 51, -1, MAX, MIN}) {
            changesNothing(SentencesTest::inUse, x -> due(NONE, x.weave(bad, false)));
            changesNothing(SentencesTest::inUse, x -> due(NONE, x.weave(bad, true)));
        }
        for (int bad : new int[] {9, -1, MAX, MIN}) {
            changesNothing(SentencesTest::inUse, x -> due(NONE, x.about(bad)));
        }
        changesNothing(SentencesTest::full, x -> due(NONE, x.bead(1, true)));
        changesNothing(SentencesTest::full, x -> due(NONE, x.step(0, 0, 0, 0, 1)));
        changesNothing(SentencesTest::inUse, x -> due(NONE, x.alike(0, 3)));
        changesNothing(SentencesTest::inUse, x -> due(NONE, x.alike(4, 0)));
        changesNothing(Loom::new, x -> due(NONE, x.weave(1, true)));
    }

    private static void answersNoneOrFalse() {
        makeThatIsFalse();
        otherFalseOnes();
        thoseThatAnswerNone();
    }

    /** With all else wrong too, or such that another answer would be due. */
    private static void noRackAheadOfAllElse() {
        Loom x = inUse();
        List<Long> before = rows(x);
        for (int bad : NO_RACKS) {
            due(false, x.make(bad, 0, -1));
            due(false, x.lamp(bad));
            due(false, x.empty(bad));
            due(false, x.put(bad, -1, 2));
            due(0, x.look(bad, 0));
            due(0, x.look(bad, -1));
            for (int other : new int[] {0, 3, 4, bad}) {
                due(NONE, x.move(bad, -1, other, 0, MAX));
                due(NONE, x.move(other, 0, bad, MIN, 0));
                due(NONE, x.alike(bad, other));
                due(NONE, x.alike(other, bad));
                due(NONE, x.step(bad, 0, other, 0, 0));
                due(NONE, x.step(other, 0, bad, 0, 0));
            }
            due(NONE, x.open(bad, -1));
            due(NONE, x.close(bad, MAX));
            due(NONE, x.turn(bad, MIN));
            due(0, x.shade(bad));
            due(NONE, x.rack(bad, 2));
            due(NONE, x.rack(bad, 1));
        }
        counts(x, 2, 1, 1, 1, 1, 2, 2, 2, 1);
        same("after calls with no rack", before, rows(x));
    }

    private static void theConstant() {
        lastCall = "NONE";
        due(-1, BeadLoom.NONE);
    }

    // ---- Promises 1 to 9 ----

    private static void newObject() {
        Loom used = inUse();
        due(2, used.about(6));
        // What an earlier object holds is not in the new one.
        Loom x = new Loom();
        for (int r = 0; r <= 7; r++) {
            due(0, x.rack(r, 0));
            due(0, x.rack(r, 1));
            due(1, x.turn(r, 0));
        }
        for (int what = 0; what <= 8; what++) {
            due(0, x.about(what));
        }
        due(0, x.colour(0));
        due(false, x.paint(0, 1));
        due(NONE, x.weave(1, false));
        due(0, x.forget());
        due(0, x.bead(1, false));
        due(1, x.step(0, 0, 0, 0, 0));
    }

    private static void makeWhateverItHeld() {
        for (int kind = 1; kind <= 8; kind++) {
            Loom x = filled(0, kind == 8 ? 1 : kind + 1, 40);
            due(true, x.make(0, kind, 3));
            due(kind, x.rack(0, 0));
            holds(x, 0, blank(kind), blank(kind), blank(kind));
            due(true, x.lamp(0));
            due(true, x.make(0, kind, 40));
            due(40, x.rack(0, 1));
            due(true, x.empty(0));
            due(true, x.make(0, kind, 0));
            due(kind, x.rack(0, 0));
            due(0, x.rack(0, 1));
            // From now on: no other rack's change touches it.
            due(true, x.make(1, 4, 7));
            due(true, x.lamp(7));
            due(kind, x.rack(0, 0));
        }
    }

    private static void makeThatCannot() {
        Loom x = new Loom();
        for (int kind : new int[] {0, -1, 9, 10, MAX, MIN}) {
            due(false, x.make(0, kind, 0));
            due(false, x.make(0, kind, 40));
        }
        for (int n : new int[] {-1, -40, 41, 256, MAX, MIN}) {
            due(false, x.make(0, 1, n));
            due(false, x.make(0, 8, n));
        }
        due(0, x.rack(0, 0));
        for (int kind : new int[] {1, 8}) {
            for (int n : new int[] {0, 40}) {
                due(true, x.make(0, kind, n));
                due(kind, x.rack(0, 0));
                due(n, x.rack(0, 1));
            }
        }
    }

    private static void lampWhateverItHeld() {
        Loom x = new Loom();
        due(true, x.lamp(0));
        due(true, x.lamp(0));
        for (int kind = 1; kind <= 8; kind++) {
            due(true, x.make(7, kind, kind * 5));
            due(true, x.lamp(7));
            due(9, x.rack(7, 0));
            due(0, x.rack(7, 1));
            due(false, x.put(7, 0, NONE));
            due(0, x.look(7, 0));
            due(NONE, x.alike(7, 7));
        }
        due(9, x.rack(0, 0));
        due(0, x.rack(1, 0));
        due(0, x.rack(6, 0));
        for (int rack : NO_RACKS) {
            due(false, x.lamp(rack));
        }
    }

    private static void emptyFromNowOn() {
        Loom x = new Loom();
        for (int r = 0; r <= 7; r++) {
            due(false, x.empty(r));
            due(true, x.make(r, r + 1, r % 2 == 0 ? 0 : 40));
            due(true, x.empty(r));
            due(0, x.rack(r, 0));
            due(0, x.rack(r, 1));
            due(false, x.empty(r));
            due(true, x.lamp(r));
            due(true, x.empty(r));
            due(false, x.empty(r));
            due(false, x.put(r, 0, NONE));
            due(0, x.look(r, 0));
            due(1, x.move(r, 0, r, 0, 0));
        }
        for (int rack : NO_RACKS) {
            due(false, x.empty(rack));
        }
    }

    private static void beadNumbers() {
        Loom x = new Loom();
        due(0, x.bead(MIN, true));
        due(1, x.bead(MAX, false));
        for (int k = 2; k <= 198; k++) {
            due(k, x.bead(k, k % 3 == 0));
        }
        due(199, x.about(6));
        due(199, x.bead(-1, true));
        due(200, x.about(6));
        for (int colour : new int[] {0, 1, MAX, MIN}) {
            due(NONE, x.bead(colour, true));
            due(NONE, x.bead(colour, false));
        }
        due(200, x.about(6));
        due(MIN, x.colour(0));
        due(-1, x.colour(199));
        // Racks that are made, emptied or lit leave the beads.
        due(true, x.make(0, 8, 1));
        due(true, x.put(0, 0, 199));
        due(true, x.empty(0));
        due(NONE, x.bead(0, false));
        due(-1, x.colour(199));
    }

    private static void paintAtTheEdges() {
        Loom x = new Loom();
        for (int bead : new int[] {-1, 0, 1, MAX, MIN}) {
            due(false, x.paint(bead, 4));
        }
        due(0, x.bead(7, false));
        due(true, x.paint(0, MAX));
        due(MAX, x.colour(0));
        due(true, x.paint(0, MIN));
        due(MIN, x.colour(0));
        due(true, x.paint(0, MIN));
        for (int bead : new int[] {-1, 1, 200, MAX, MIN}) {
            due(false, x.paint(bead, 4));
        }
        due(MIN, x.colour(0));
        // What was refused isn't the colour of the bead that comes then.
        due(1, x.bead(8, true));
        due(8, x.colour(1));
        Loom y = full();
        due(true, y.paint(199, -6));
        due(-6, y.colour(199));
        due(198, y.colour(198));
        due(false, y.paint(200, -6));
        due(true, y.paint(0, -7));
        due(-7, y.colour(0));
        due(1, y.colour(1));
    }

    private static void colourAtTheEdges() {
        Loom x = new Loom();
        due(0, x.colour(0));
        due(0, x.bead(MAX, false));
        due(1, x.bead(MIN, true));
        due(MAX, x.colour(0));
        due(MIN, x.colour(1));
        for (int bead : new int[] {-1, 2, 199, 200, MAX, MIN}) {
            due(0, x.colour(bead));
        }
        Loom y = full();
        due(199, y.colour(199));
        due(0, y.colour(200));
        due(0, y.colour(-1));
    }

    private static void putOfEachKind() {
        long[] kept = {0, -1, -1, 65535, -1, -1, 1, NONE, NONE};
        for (int kind = 1; kind <= 8; kind++) {
            Loom x = filled(0, kind, 3);
            due(true, x.put(0, 1, NONE));
            holds(x, 0, thing(kind, 0), kept[kind], thing(kind, 2));
            due(true, x.put(0, 1, 0));
            due(0, x.look(0, 1));
            due(true, x.put(0, 2, kind == 5 ? LMAX : 1));
            due(kind == 5 ? LMAX : 1, x.look(0, 2));
        }
    }

    private static void putThatCannot() {
        Loom x = inUse();
        for (long v : new long[] {NONE, 0, 1, LMAX, LMIN}) {
            due(false, x.put(3, 0, v));
            due(false, x.put(4, 0, v));
            due(false, x.put(5, 0, v));
            due(false, x.put(0, 3, v));
            due(false, x.put(0, -1, v));
            due(false, x.put(1, 3, v));
            due(false, x.put(2, MAX, v));
            due(false, x.put(2, MIN, v));
        }
        for (long v : new long[] {2, -2, 199, 200, TWO_TO_32 - 1, TWO_TO_32, TWO_TO_32 + 1, -TWO_TO_32,
            -TWO_TO_32 - 1, 256, 65536, LMAX, LMIN}) {
            due(false, x.put(1, 0, v));
            due(false, x.put(2, 0, v));
        }
        due(false, x.put(2, 0, 0));
        due(true, x.put(1, 0, 0));
        due(true, x.put(1, 0, 1));
        due(true, x.put(2, 0, 1));
        due(2, x.bead(0, false));
        due(true, x.put(1, 0, 2));
        due(false, x.put(2, 0, 2));
        due(3, x.bead(0, true));
        due(true, x.put(2, 0, 3));
        Loom y = full();
        due(true, y.put(0, 0, 199));
        due(false, y.put(0, 0, 200));
        due(199, y.look(0, 0));
    }

    private static void lookOfEachKind() {
        for (int kind = 1; kind <= 8; kind++) {
            Loom x = filled(7, kind, 40);
            holds(x, 7, things(kind, 40));
            for (int p : new int[] {-1, 40, 41, MAX, MIN}) {
                due(0, x.look(7, p));
            }
            due(true, x.make(7, kind, 2));
            due(blank(kind), x.look(7, 1));
            for (int p : new int[] {-1, 2, 39, MAX, MIN}) {
                due(0, x.look(7, p));
            }
            due(true, x.lamp(7));
            due(0, x.look(7, 0));
            due(true, x.empty(7));
            due(0, x.look(7, 0));
        }
    }

    // ---- Promises 10 to 16 ----

    private static void moveTellsTheReason() {
        Loom x = inUse();
        due(1, x.move(4, 0, 0, 0, 1));
        due(2, x.move(0, 0, 3, 0, 1));
        due(3, x.move(0, 3, 0, 0, 1));
        due(4, x.move(1, 0, 2, 2, 1));
        due(0, x.move(0, 2, 0, 0, 1));
        counts(x, 1, 2, 2, 2, 2, 3);
        for (int bad : NO_RACKS) {
            due(NONE, x.move(bad, 0, 0, 0, 1));
            due(NONE, x.move(0, 0, bad, 0, 1));
        }
        counts(x, 1, 2, 2, 2, 2, 3);
        due(0, x.move(7, 0, 7, 0, 3));
        due(2, x.move(0, 0, 7, 0, 3));
    }

    /** What open and close have in common. */
    private static void tellsTheReason(Loom x, IntBinaryOperator call) {
        for (int p : new int[] {-1, 0, MAX, MIN}) {
            due(1, call.applyAsInt(4, p));
            due(2, call.applyAsInt(3, p));
            due(3, call.applyAsInt(5, p));
        }
        counts(x, 0, 5, 5, 5, 1, 2);
        due(0, call.applyAsInt(0, 0));
        due(0, call.applyAsInt(7, 2));
        due(3, call.applyAsInt(7, 3));
        due(3, call.applyAsInt(7, -1));
        due(0, call.applyAsInt(2, 0));
        due(0, call.applyAsInt(1, 0));
        for (int bad : NO_RACKS) {
            due(NONE, call.applyAsInt(bad, 0));
        }
        counts(x, 2, 5, 5, 7, 1, 6);
    }

    private static void openTellsTheReason() {
        Loom x = inUse();
        tellsTheReason(x, x::open);
        holds(x, 0, 0, 1, 1);
        holds(x, 1, NONE, 0, NONE);
        holds(x, 7, -128, 5, 0);
    }

    private static void closeTellsTheReason() {
        Loom x = inUse();
        tellsTheReason(x, x::close);
        holds(x, 0, 1, 2, 0);
        holds(x, 1, NONE, 1, NONE);
        holds(x, 7, -128, 5, 0);
    }

    private static void turnTells() {
        Loom x = inUse();
        for (int d : new int[] {0, 1, -1, MAX, MIN}) {
            due(1, x.turn(4, d));
            due(2, x.turn(3, d));
            due(0, x.turn(5, d));
            due(0, x.turn(6, d));
            for (int bad : NO_RACKS) {
                due(NONE, x.turn(bad, d));
            }
        }
        // By 1, -1, 2147483647 and -2147483648 of two places: odd, odd, odd, even.
        holds(x, 6, 0, 1);
        due(0, x.rack(5, 1));
        due(9, x.rack(3, 0));
        due(0, x.rack(4, 0));
    }

    private static void stepAsksNothingElse() {
        Loom x = inUse();
        due(2, x.forget());
        int k = 0;
        for (int v : new int[] {MIN, -1, 41, MAX}) {
            due(++k, x.step(4, v, 4, v, v));
            due(++k, x.step(3, v, 0, v, v));
            due(++k, x.step(0, v, 1, v, v));
            due(++k, x.step(7, v, 7, v, v));
            due(++k, x.step(0, v, 0, 0, 0));
        }
        for (int bad : NO_RACKS) {
            due(NONE, x.step(bad, 0, 0, 0, 0));
            due(NONE, x.step(7, 0, bad, 0, 0));
        }
        due(20, x.about(7));
        due(21, x.step(0, 0, 7, 0, 0));
        due(22, x.step(7, 0, 0, 0, 0));
        due(23, x.step(0, 0, 0, 0, 0));
        due(24, x.step(0, 0, 0, 0, 0));
        due(NONE, x.step(0, 0, 0, 0, 0));
        due(NONE, x.step(8, 0, 0, 0, 0));
        due(24, x.about(7));
        counts(x, 2, 1, 1, 1, 1, 2);
        // The racks that a STEP names may change: it is asked for them when it is woven.
        due(0, x.weave(1, false));
        counts(x, 0, 2);
        due(true, x.lamp(4));
        due(0, x.weave(1, false));
        counts(x, 0, 2, 2);
    }

    private static void forgetTellsHowMany() {
        Loom x = new Loom();
        due(0, x.forget());
        due(1, x.step(0, 0, 1, 0, 1));
        due(1, x.forget());
        due(0, x.forget());
        due(0, x.about(7));
        for (int k = 1; k <= 24; k++) {
            due(k, x.step(0, 0, 1, 0, 1));
        }
        due(NONE, x.step(0, 0, 1, 0, 1));
        due(24, x.forget());
        due(NONE, x.weave(1, false));
        counts(x, 0, 0, 0, 0, 0, 0);
        // What comes after it is woven alone.
        row(x, 0, 4, 1, 2);
        due(1, x.step(0, 1, 0, 0, 1));
        due(50, x.weave(50, true));
        holds(x, 0, 2, 2);
        counts(x, 1, 0, 0, 0, 0, 50);
        due(1, x.forget());
        due(50, x.about(8));
    }

    private static void weaveTellsHowMany() {
        Loom x = full();
        due(24, x.weave(1, true));
        due(1200, x.weave(50, true));
        due(1200, x.weave(50, false));
        due(1176, x.weave(49, false));
        due(150, x.about(8));
        due(3600, x.about(5));
        // The last STEP of the first ROUND is REFUSED, then the first one.
        due(24, x.forget());
        due(1, x.step(0, 0, 0, 0, 2));
        due(2, x.step(0, 1, 0, 0, 2));
        due(1, x.weave(50, false));
        due(0, x.weave(50, true));
        due(1, x.weave(1, false));
        due(0, x.weave(1, true));
        counts(x, 0, 0, 0, 4, 0, 3604);
        due(2, x.forget());
        due(1, x.step(0, 1, 0, 0, 2));
        due(2, x.step(0, 0, 0, 0, 2));
        due(0, x.weave(50, false));
        due(0, x.weave(50, true));
        counts(x, 0, 0, 0, 6, 0, 3604);
        due(150, x.about(8));
    }

    private static void weaveOfAnotherNumber() {
        Loom x = inUse();
        for (int rounds : new int[] {0, -1, 51, 52, 256, MAX, MIN}) {
            due(NONE, x.weave(rounds, false));
            due(NONE, x.weave(rounds, true));
        }
        counts(x, 2, 1, 1, 1, 1, 2);
        due(1, x.about(8));
        due(2, x.weave(1, false));
        due(100, x.weave(50, false));
        due(2, x.weave(1, true));
        due(100, x.weave(50, true));
        due(103, x.about(8));
        due(2, x.forget());
        for (int rounds : new int[] {0, 1, 50, 51, MAX, MIN}) {
            due(NONE, x.weave(rounds, false));
            due(NONE, x.weave(rounds, true));
        }
        counts(x, 2, 1, 1, 1, 1, 206);
    }

    // ---- Promises 17 to 20 ----

    private static void alikeUpToTheFirstThatDont() {
        for (int kind = 1; kind <= 8; kind++) {
            for (int differs : new int[] {0, 1, 38, 39, 40}) {
                Loom x = filled(0, kind, 40);
                due(true, x.make(7, kind, 40));
                due(0, x.move(0, 0, 7, 0, 40));
                for (int p = differs; p < Math.min(differs + 1, 40); p++) {
                    long other = kind == 6 ? 1 - x.look(0, p) : thing(kind, (p + 1) % 40);
                    due(true, x.put(7, p, other));
                }
                due(differs, x.alike(0, 7));
                due(differs, x.alike(7, 0));
                due(40, x.alike(7, 7));
            }
        }
    }

    private static void alikeUpToWhatOneHasNot() {
        int[] lengths = {0, 1, 39, 40};
        for (int kind = 1; kind <= 8; kind++) {
            for (int n : lengths) {
                for (int m : lengths) {
                    Loom x = new Loom();
                    due(true, x.make(0, kind, n));
                    due(true, x.make(7, kind, m));
                    due(Math.min(n, m), x.alike(0, 7));
                }
            }
        }
        // What a shorter row once had doesn't count.
        Loom x = filled(0, 5, 40);
        due(true, x.make(7, 5, 40));
        due(0, x.move(0, 0, 7, 0, 40));
        due(true, x.make(7, 5, 1));
        due(true, x.put(7, 0, thing(5, 0)));
        due(1, x.alike(0, 7));
    }

    private static void alikeOfUnlikeKinds() {
        Loom x = new Loom();
        for (int kind = 1; kind <= 8; kind++) {
            due(true, x.make(kind - 1, kind, 3));
        }
        for (int a = 1; a <= 8; a++) {
            for (int b = 1; b <= 8; b++) {
                boolean numbers = a <= 5 && b <= 5;
                boolean beads = a >= 7 && b >= 7;
                due(numbers || beads || a == b ? 3 : 0, x.alike(a - 1, b - 1));
            }
        }
    }

    private static void alikeWithoutARow() {
        Loom x = inUse();
        for (int without : new int[] {3, 4, -1, 8, MAX, MIN}) {
            for (int other = 0; other <= 7; other++) {
                due(NONE, x.alike(without, other));
                due(NONE, x.alike(other, without));
            }
            due(NONE, x.alike(without, without));
        }
        due(0, x.alike(5, 5));
        due(0, x.alike(0, 5));
    }

    private static void shadeWithoutARow() {
        Loom x = inUse();
        due(4, x.shade(0));
        due(24, x.shade(2));
        due(1, x.shade(6));
        for (int without : new int[] {3, 4, 5, -1, 8, MAX, MIN}) {
            due(0, x.shade(without));
        }
        due(true, x.lamp(0));
        due(0, x.shade(0));
        due(true, x.empty(2));
        due(0, x.shade(2));
        due(true, x.make(6, 6, 2));
        due(0, x.shade(6));
    }

    private static void rackTellsKindAndPlaces() {
        Loom x = new Loom();
        for (int kind = 1; kind <= 8; kind++) {
            for (int n : new int[] {0, 1, 39, 40}) {
                due(true, x.make(kind - 1, kind, n));
                due(kind, x.rack(kind - 1, 0));
                due(n, x.rack(kind - 1, 1));
            }
        }
        due(true, x.lamp(0));
        due(9, x.rack(0, 0));
        due(0, x.rack(0, 1));
        due(true, x.empty(7));
        due(0, x.rack(7, 0));
        due(0, x.rack(7, 1));
        for (int bad : NO_RACKS) {
            due(NONE, x.rack(bad, 0));
            due(NONE, x.rack(bad, 1));
        }
    }

    private static void rackOfAnotherWhat() {
        Loom x = inUse();
        for (int r = 0; r <= 7; r++) {
            for (int what : new int[] {-1, 2, 3, MAX, MIN}) {
                due(NONE, x.rack(r, what));
            }
        }
    }

    private static void aboutCountsByReason() {
        Loom x = inUse();
        counts(x, 2, 1, 1, 1, 1, 2, 2, 2, 1);
        due(1, x.move(4, 0, 4, 0, 0));
        due(2, x.move(3, 0, 3, 0, 0));
        due(2, x.open(3, 0));
        due(3, x.close(0, 3));
        due(3, x.open(0, 3));
        due(3, x.move(0, 0, 0, 0, 4));
        for (int k = 0; k < 4; k++) {
            due(4, x.move(1, 0, 2, 0, 1));
        }
        for (int k = 0; k < 5; k++) {
            due(0, x.close(7, 1));
        }
        due(2, x.bead(1, true));
        due(3, x.step(4, 0, 4, 0, 0));
        counts(x, 1, 2, 3, 4, 5, 7, 3, 3, 1);
        // Taken back, and counted all the same.
        due(4, x.step(0, 0, 0, 0, 0));
        due(0, x.weave(9, true));
        counts(x, 0, 3, 3, 4, 5, 9, 3, 4, 1);
        due(2, x.weave(9, false));
        counts(x, 0, 4, 3, 4, 5, 11, 3, 4, 1);
    }

    /** The largest counts that one object comes to within its calls. */
    private static void aboutOfManyMovings() {
        Loom x = new Loom();
        due(true, x.make(0, 4, 1));
        for (int k = 1; k <= 24; k++) {
            due(k, x.step(0, 0, 0, 0, 1));
        }
        for (int k = 0; k < 480; k++) {
            due(1200, x.weave(50, k % 2 == 0));
        }
        due(480 * 1200, x.about(5));
        due(480 * 50, x.about(8));
        Loom y = new Loom();
        for (int k = 0; k < 500; k++) {
            due(1, y.move(0, 0, 0, 0, 0));
        }
        due(500, y.about(1));
        // The 512th call is still one of those that are promised.
        for (int what = 2; what <= 8; what++) {
            due(0, y.about(what));
        }
        due(0, y.about(0));
        due(NONE, y.about(9));
        due(NONE, y.about(-1));
        due(500, y.about(1));
    }

    private static void aboutBeadsStepsAndRounds() {
        Loom x = new Loom();
        for (int k = 1; k <= 201; k++) {
            due(k <= 200 ? k - 1 : NONE, x.bead(0, true));
            due(Math.min(k, 200), x.about(6));
        }
        due(true, x.make(0, 1, 1));
        for (int k = 1; k <= 25; k++) {
            due(k <= 24 ? k : NONE, x.step(0, 0, 0, 0, 1));
            due(Math.min(k, 24), x.about(7));
        }
        due(0, x.about(8));
        due(24, x.weave(1, false));
        due(1, x.about(8));
        due(1200, x.weave(50, true));
        due(51, x.about(8));
        // A ROUND that is REFUSED at its last STEP isn't woven to its end.
        due(24, x.forget());
        due(0, x.about(7));
        due(1, x.step(0, 0, 0, 0, 1));
        due(2, x.step(0, 0, 0, 1, 1));
        due(1, x.weave(1, false));
        due(0, x.weave(1, true));
        due(51, x.about(8));
        due(2, x.about(7));
        due(200, x.about(6));
    }

    private static void aboutOfAnotherWhat() {
        Loom x = inUse();
        for (int what : new int[] {-1, 9, 10, 256, MAX, MIN}) {
            due(NONE, x.about(what));
        }
    }

    // ---- The document's words, each with its test ----

    private static void racksKindsAndBeads() {
        sentence("RACKS, 0 .. 7: each is EMPTY (at first), holds a LAMP, or a ROW of a KIND", SentencesTest::racks);
        sentence("with 0 to 40 PLACES, numbered from 0 on.", SentencesTest::places);
        sentence("KINDS: 1 bytes, 2 shorts, 3 chars, 4 ints, 5 longs, 6 truths, 7 beads, 8 pearls.",
            SentencesTest::kinds);
        sentence("A place of kinds 1 to 5 holds a NUMBER, of which the lowest 8, 16, 16, 32, 64 bits are kept "
            + "(with their sign, but those of 3 without);", SentencesTest::lowestBits);
        sentence("of 6 a 0 or 1;", SentencesTest::truths);
        sentence("of 7 NOTHING, or a bead;", SentencesTest::nothingOrABead);
        sentence("of 8 nothing, or a pearl.", SentencesTest::nothingOrAPearl);
        sentence("At first that is 0, or nothing.", SentencesTest::atFirst);
        sentence("BEADS are numbered from 0 on as they are made, at most 200; some of them are PEARLS "
            + "(numbered with all others).", SentencesTest::beadsAreAtMost200);
        sentence("A bead has a COLOUR, an int.", SentencesTest::coloursAreInts);
        sentence("One bead may lie in several places, of one row or of several: it is the same one, of one "
            + "colour.", SentencesTest::oneBeadInSeveralPlaces);
    }

    private static void movings() {
        sentence("MOVING n things from place i of rack a on to place j of rack b on is REFUSED, by the first of "
            + "these reasons that holds: 1 a or b is EMPTY;", SentencesTest::emptyIsTheFirstReason);
        sentence("2 a or b holds a LAMP,", SentencesTest::lampIsTheSecondReason);
        sentence("or their KINDS are unlike (beads and pearls are like here);",
            SentencesTest::unlikeKindsAreTheSecondReason);
        sentence("3 i, j or n is below 0, or i + n is more than a has places, or j + n more than b has",
            SentencesTest::thirdReasonAtTheEnds);
        sentence("(sums without any bound).", SentencesTest::sumsWithoutAnyBound);
        sentence("By these nothing is changed.", SentencesTest::byTheseNothingIsChanged);
        sentence("Otherwise the things come one by one, from place i on,", SentencesTest::fromRackToRack);
        sentence("each as it was ahead of all (a and b may be one rack),", SentencesTest::eachAsItWasAheadOfAll);
        sentence("up to the first bead that is no pearl where b has pearls", SentencesTest::upToTheFirstBead);
        sentence("(nothing may come to any):", SentencesTest::nothingMayComeToAny);
        sentence("that is reason 4: it doesn't come, nor do those behind it; those ahead of it came, and stay.",
            SentencesTest::thoseAheadCameAndStay);
        sentence("CAME is how many came in the latest MOVING (0 with reasons 1 to 3, and ahead of any MOVING).",
            SentencesTest::cameIsOfTheLatestMoving);
    }

    private static void openCloseAndTurn() {
        sentence("To OPEN place p of a rack is the MOVING of all things from p on, but the last one, to p + 1 on "
            + "(n: places less 1 less p);", SentencesTest::openMoves);
        sentence("then, if it wasn't REFUSED, place p holds 0, or nothing.",
            SentencesTest::placeIsBlankAfterOpen);
        sentence("To CLOSE place p is the MOVING of all things from p + 1 on to p on (n: places less 1 less p);",
            SentencesTest::closeMoves);
        sentence("then, likewise, the last place holds 0, or nothing.", SentencesTest::lastPlaceIsBlankAfterClose);
        sentence("TURNING a row by d: the thing of place p comes to the place that is the remainder of p + d by "
            + "how many places there are", SentencesTest::turnsOfThreePlaces);
        sentence("(not below 0, whatever d is; the sum without any bound).",
            SentencesTest::turnsByAllThatAnIntHolds);
        sentence("It is no MOVING.", SentencesTest::turningIsNoMoving);
    }

    private static void patternAndWeaving() {
        sentence("A PATTERN has at most 24 STEPS (none at first),", () -> {
            patternOf24Steps();
            all24StepsAreKept();
        });
        sentence("each a MOVING with its five numbers.", SentencesTest::fiveNumbersOfAStep);
        sentence("WEAVING it does all steps in their order, a ROUND,", SentencesTest::stepsInTheirOrder);
        sentence("and that so often as is told,", SentencesTest::roundsSoOftenAsIsTold);
        sentence("up to the first MOVING that is REFUSED.", SentencesTest::upToTheFirstRefused);
        sentence("Weaving WHOLE, what all rows hold is then as it was", SentencesTest::whatAllRowsHold);
        sentence("ahead of the ROUND in which that was", SentencesTest::onlyThatRoundIsTakenBack);
        sentence("(CAME and all counts stay as they have become).", SentencesTest::wholeTakesTheRoundBack);
    }

    private static void alikeShadeAndNone() {
        sentence("ALIKE are two things if both are numbers (of KINDS 1 to 5, also unlike ones) and equal,",
            SentencesTest::alikeNumbers);
        sentence("both of KIND 6 and equal,", SentencesTest::alikeTruths);
        sentence("or both of KINDS 7 and 8 and nothing, or the same bead.", SentencesTest::alikeBeads);
        sentence("The SHADE of a row is the sum of its numbers,", SentencesTest::shadeOfNumbers);
        sentence("of KIND 6 how many are 1,", SentencesTest::shadeOfTruths);
        sentence("of KINDS 7 and 8 the sum of the colours of the beads, each as often as it lies there",
            SentencesTest::shadeOfBeads);
        sentence("(64 bits, wrapped).", SentencesTest::shadeWraps);
        sentence("A call that answers NONE, or false, changes nothing.", SentencesTest::answersNoneOrFalse);
        sentence("A rack that isn't 0 .. 7 is told by NONE (false, 0) ahead of all else.",
            SentencesTest::noRackAheadOfAllElse);
        sentence("The constants: `NONE = -1`: There is none such; nothing.", SentencesTest::theConstant);
    }

    private static void promises1To9() {
        sentence("All racks are EMPTY, no bead is there, no STEP.", SentencesTest::newObject);
        sentence("A rack holds a new ROW of a KIND with n places from now on, whatever it held: true;",
            SentencesTest::makeWhateverItHeld);
        sentence("false for another KIND than 1 .. 8, or n not 0 .. 40.", SentencesTest::makeThatCannot);
        sentence("A rack holds a LAMP from now on, whatever it held.", SentencesTest::lampWhateverItHeld);
        sentence("A rack is EMPTY from now on; false if it is already.", SentencesTest::emptyFromNowOn);
        sentence("A new bead, or pearl: its number; NONE if there are 200.", SentencesTest::beadNumbers);
        sentence("A bead has another colour from now on; false if there is none such.",
            SentencesTest::paintAtTheEdges);
        sentence("The colour of a bead; 0 if there is none such.", SentencesTest::colourAtTheEdges);
        sentence("A place of a row holds from now on: of KINDS 1 to 5 the number v (its lowest bits), of 6 a 0 if "
            + "v is 0, else 1, of 7 and 8 bead v, or nothing if v is NONE.", SentencesTest::putOfEachKind);
        sentence("False if the rack has no row, or no such place, or (of 7 and 8) there is no such bead, or (of 8) "
            + "it is no pearl.", SentencesTest::putThatCannot);
        sentence("What a place holds: the number, the 0 or 1, the bead's number, or NONE for nothing; 0 if the "
            + "rack has no row, or no such place.", SentencesTest::lookOfEachKind);
    }

    private static void promises10To16() {
        sentence("MOVING: 0, or the reason by which it was REFUSED; NONE if one of the racks isn't 0 .. 7.",
            SentencesTest::moveTellsTheReason);
        sentence("OPENS a place of a rack: 0, or the reason.", SentencesTest::openTellsTheReason);
        sentence("CLOSES a place of a rack: 0, or the reason.", SentencesTest::closeTellsTheReason);
        sentence("TURNS a rack's row: 0; 1 if it is EMPTY, 2 if it holds a LAMP.", SentencesTest::turnTells);
        sentence("A STEP comes to the PATTERN's end: how many there are then; NONE if there are 24, or one of the "
            + "racks isn't 0 .. 7 (nothing else is asked).", SentencesTest::stepAsksNothingElse);
        sentence("The PATTERN has no STEPS any more: how many it had.", SentencesTest::forgetTellsHowMany);
        sentence("WEAVES so many ROUNDS (1 .. 50), WHOLE or not: how many MOVINGS were done that weren't REFUSED, "
            + "less those that were taken back;", SentencesTest::weaveTellsHowMany);
        sentence("NONE for another number, or without STEPS.", SentencesTest::weaveOfAnotherNumber);
    }

    private static void promises17To20() {
        sentence("From place 0 on, how many places of two rows hold things that are ALIKE, up to the first that "
            + "don't,", () -> {
                alikeUpToTheFirstThatDont();
                alikeOfUnlikeKinds();
            });
        sentence("or that one of them hasn't;", SentencesTest::alikeUpToWhatOneHasNot);
        sentence("NONE if one of the racks has no row.", SentencesTest::alikeWithoutARow);
        sentence("The SHADE of a rack's row; 0 if it has none.", SentencesTest::shadeWithoutARow);
        sentence("Of a rack: 0 the KIND of its row (0 EMPTY, 9 a LAMP), 1 how many places it has (0 without a row).",
            SentencesTest::rackTellsKindAndPlaces);
        sentence("NONE for another what.", SentencesTest::rackOfAnotherWhat);
        sentence("0 CAME; 1 .. 4 how many MOVINGS were REFUSED by that reason; 5 how many were done that weren't "
            + "(also such as were taken back);", () -> {
                aboutCountsByReason();
                aboutOfManyMovings();
            });
        sentence("6 how many beads there are, 7 STEPS; 8 how many ROUNDS were woven to their end.",
            SentencesTest::aboutBeadsStepsAndRounds);
        sentence("NONE for another what.", SentencesTest::aboutOfAnotherWhat);
    }

    /** The Terms and the promises, without headings and without the calls' own lines. */
    private static String sentencesOf(String document) {
        int from = document.indexOf("## Terms");
        int to = document.indexOf("## Not promised");
        if (from < 0 || to < from) {
            return "";
        }
        return document.substring(from, to).replaceAll("(?m)^(##|```).*$", "").replaceAll("(?m)^`[^`]*`: ", "")
            .replaceAll("\\s+", " ");
    }

    private static void everySentenceIsQuoted() throws IOException {
        section = DOCUMENT.toString();
        if (!Files.exists(DOCUMENT)) {
            System.out.println("there is no " + DOCUMENT + " here: whether all its sentences are tested is not known");
            return;
        }
        String left = sentencesOf(Files.readString(DOCUMENT));
        for (String words : QUOTED) {
            int at = left.indexOf(words);
            if (at < 0) {
                fault("hasn't (or not so often) the words that a test quotes: " + words);
            } else {
                left = left.substring(0, at) + "|" + left.substring(at + words.length());
            }
        }
        for (String words : left.split("\\|")) {
            if (!words.isBlank()) {
                fault("has words that no test quotes: " + words.strip());
            }
        }
    }

    /** A call that doesn't end is a fault too: the test then ends all the same. */
    private static void endInTime() {
        Thread watch = new Thread(() -> {
            try {
                Thread.sleep(MOST_SECONDS * 1000L);
            } catch (InterruptedException stopped) {
                return;
            }
            System.out.println("\"" + section + "\": " + lastCall + " hasn't ended in " + MOST_SECONDS + " seconds");
            System.out.flush();
            Runtime.getRuntime().halt(1);
        });
        watch.setDaemon(true);
        watch.start();
    }

    public static void main(String[] args) throws IOException {
        endInTime();
        racksKindsAndBeads();
        movings();
        openCloseAndTurn();
        patternAndWeaving();
        alikeShadeAndNone();
        promises1To9();
        promises10To16();
        promises17To20();
        everySentenceIsQuoted();
        System.out.println(QUOTED.size() + " sentences, " + checks + " checks, " + wrong + " wrong");
        if (wrong != 0) {
            System.exit(1);
        }
    }
}
