/** Each promise of the document: ordinary inputs, the edges that it names, and wrong inputs. */
public final class PromisesTest {
    private static final int NONE = BeadLoom.NONE;
    private static final int MAX = Integer.MAX_VALUE;
    private static final int MIN = Integer.MIN_VALUE;
    private static final int[] WRONG_RACKS = {-1, 8, 9, MAX, MIN};
    private static final int MOST_SECONDS = 60;

    private static volatile String section = "";
    private static int wrong = 0;
    private static int checks = 0;

    private static void due(String what, long got, long want) {
        checks++;
        if (got != want) {
            wrong++;
            System.out.println(section + ": " + what + " answered " + got + ", due is " + want);
        }
    }

    private static void due(String what, boolean got, boolean want) {
        due(what, got ? 1 : 0, want ? 1 : 0);
    }

    /** A row with the given things in it. */
    private static void fill(BeadLoom x, int rack, int kind, long... things) {
        due("make for fill", x.make(rack, kind, things.length), true);
        for (int p = 0; p < things.length; p++) {
            due("put for fill", x.put(rack, p, things[p]), true);
        }
    }

    private static void holds(BeadLoom x, int rack, long... things) {
        due("places of rack " + rack, x.rack(rack, 1), things.length);
        for (int p = 0; p < things.length; p++) {
            due("look(" + rack + ", " + p + ")", x.look(rack, p), things[p]);
        }
    }

    /** CAME, the REFUSED by reason 1 to 4, and the done ones. */
    private static void tells(BeadLoom x, int came, int r1, int r2, int r3, int r4, int done) {
        int[] want = {came, r1, r2, r3, r4, done};
        for (int what = 0; what < want.length; what++) {
            due("about(" + what + ")", x.about(what), want[what]);
        }
    }

    private static void newObject() {
        BeadLoom x = new BeadLoom();
        for (int r = 0; r < 8; r++) {
            due("kind of rack " + r, x.rack(r, 0), 0);
            due("places of rack " + r, x.rack(r, 1), 0);
            due("look", x.look(r, 0), 0);
        }
        for (int what = 0; what <= 8; what++) {
            due("about " + what, x.about(what), 0);
        }
        due("colour(0)", x.colour(0), 0);
        due("forget()", x.forget(), 0);
        due("weave", x.weave(1, true), NONE);
        due("NONE", NONE, -1);
    }

    private static void twoObjectsAreApart() {
        BeadLoom x = new BeadLoom();
        BeadLoom y = new BeadLoom();
        x.make(0, 4, 3);
        x.put(0, 0, 5);
        x.bead(1, true);
        x.step(0, 0, 0, 0, 1);
        x.weave(1, false);
        due("y's rack", y.rack(0, 0), 0);
        due("y's beads", y.about(6), 0);
        due("y's steps", y.about(7), 0);
        due("y's movings", y.about(5), 0);
        due("y's rounds", y.about(8), 0);
    }

    private static void make() {
        BeadLoom x = new BeadLoom();
        for (int kind = 1; kind <= 8; kind++) {
            due("make", x.make(kind - 1, kind, kind), true);
        }
        for (int kind = 1; kind <= 8; kind++) {
            due("kind", x.rack(kind - 1, 0), kind);
            due("places", x.rack(kind - 1, 1), kind);
            for (int p = 0; p < kind; p++) {
                due("first thing", x.look(kind - 1, p), kind >= 7 ? NONE : 0);
            }
        }
        due("0 places", x.make(0, 4, 0), true);
        due("places", x.rack(0, 1), 0);
        due("40 places", x.make(0, 4, 40), true);
        due("places", x.rack(0, 1), 40);
        x.put(0, 39, 7);
        for (int kind : new int[] {0, -1, 9, 10, MAX, MIN}) {
            due("kind " + kind, x.make(0, kind, 3), false);
        }
        for (int n : new int[] {-1, 41, MAX, MIN}) {
            due("n " + n, x.make(0, 4, n), false);
        }
        for (int rack : WRONG_RACKS) {
            due("rack " + rack, x.make(rack, 4, 3), false);
        }
        due("nothing changed", x.look(0, 39), 7);
        due("kind", x.rack(0, 0), 4);
        due("places", x.rack(0, 1), 40);
        due("made anew", x.make(0, 4, 40), true);
        due("the new row has 0", x.look(0, 39), 0);
        due("made of beads", x.make(0, 7, 40), true);
        due("the new row has nothing", x.look(0, 39), NONE);
        due("made of numbers", x.make(0, 1, 40), true);
        due("the new row has 0", x.look(0, 39), 0);
        x.lamp(1);
        due("over a lamp", x.make(1, 6, 2), true);
        due("kind", x.rack(1, 0), 6);
    }

    private static void lamp() {
        BeadLoom x = new BeadLoom();
        due("on an empty rack", x.lamp(0), true);
        due("kind", x.rack(0, 0), 9);
        due("places", x.rack(0, 1), 0);
        due("again", x.lamp(0), true);
        fill(x, 7, 4, 1, 2, 3);
        due("over a row", x.lamp(7), true);
        due("kind", x.rack(7, 0), 9);
        due("places", x.rack(7, 1), 0);
        due("look", x.look(7, 1), 0);
        due("put", x.put(7, 0, 1), false);
        due("shade", x.shade(7), 0);
        for (int rack : WRONG_RACKS) {
            due("rack " + rack, x.lamp(rack), false);
        }
    }

    private static void empty() {
        BeadLoom x = new BeadLoom();
        due("already", x.empty(0), false);
        x.lamp(0);
        due("a lamp", x.empty(0), true);
        due("kind", x.rack(0, 0), 0);
        due("again", x.empty(0), false);
        fill(x, 7, 4, 1, 2, 3);
        due("a row", x.empty(7), true);
        due("kind", x.rack(7, 0), 0);
        due("places", x.rack(7, 1), 0);
        due("look", x.look(7, 1), 0);
        x.make(6, 4, 0);
        due("a row without places", x.empty(6), true);
        for (int rack : WRONG_RACKS) {
            due("rack " + rack, x.empty(rack), false);
        }
    }

    private static void bead() {
        BeadLoom x = new BeadLoom();
        for (int k = 0; k < 200; k++) {
            due("bead " + k, x.bead(1000 + k, k % 3 == 0), k);
        }
        due("the 201st", x.bead(1, false), NONE);
        due("the 201st pearl", x.bead(1, true), NONE);
        due("beads", x.about(6), 200);
        due("colour of the first", x.colour(0), 1000);
        due("colour of the last", x.colour(199), 1199);
        x.make(0, 8, 1);
        due("198 is a pearl", x.put(0, 0, 198), true);
        due("199 is none", x.put(0, 0, 199), false);
        due("there is no 200", x.put(0, 0, 200), false);
    }

    private static void paint() {
        BeadLoom x = new BeadLoom();
        due("no bead yet", x.paint(0, 5), false);
        x.bead(5, false);
        x.bead(6, true);
        due("paint", x.paint(0, MIN), true);
        due("colour", x.colour(0), MIN);
        due("the other", x.colour(1), 6);
        due("a pearl", x.paint(1, 0), true);
        due("colour", x.colour(1), 0);
        for (int bead : new int[] {-1, 2, 200, MAX, MIN}) {
            due("paint(" + bead + ")", x.paint(bead, 9), false);
        }
        due("beads", x.about(6), 2);
        due("the next bead has its own colour", x.colour(x.bead(3, false)), 3);
        fill(x, 0, 7, 0, 0, 1);
        x.paint(0, 10);
        due("one bead in two places", x.shade(0), 20);
        due("a pearl stays one", x.make(1, 8, 1) && x.put(1, 0, 1), true);
    }

    private static void colour() {
        BeadLoom x = new BeadLoom();
        x.bead(MAX, false);
        x.bead(-7, true);
        due("colour", x.colour(0), MAX);
        due("colour", x.colour(1), -7);
        for (int bead : new int[] {-1, 2, 199, 200, MAX, MIN}) {
            due("colour(" + bead + ")", x.colour(bead), 0);
        }
    }

    private static void put() {
        BeadLoom x = new BeadLoom();
        long[] v = {127, 128, 255, 256, -129, 32767, 32768, 65535, 65536, -1,
            2147483647L, 2147483648L, 4294967296L, Long.MAX_VALUE, Long.MIN_VALUE};
        for (int kind = 1; kind <= 6; kind++) {
            fill(x, kind, kind, v);
        }
        holds(x, 1, 127, -128, -1, 0, 127, -1, 0, -1, 0, -1, -1, 0, 0, -1, 0);
        holds(x, 2, 127, 128, 255, 256, -129, 32767, -32768, -1, 0, -1, -1, 0, 0, -1, 0);
        holds(x, 3, 127, 128, 255, 256, 65407, 32767, 32768, 65535, 0, 65535, 65535, 0, 0, 65535, 0);
        holds(x, 4, 127, 128, 255, 256, -129, 32767, 32768, 65535, 65536, -1,
            2147483647L, -2147483648L, 0, -1, 0);
        holds(x, 5, v);
        holds(x, 6, 1, 1, 1, 1, 1, 1, 1, 1, 1, 1, 1, 1, 1, 1, 1);
        due("a 0 of truths", x.put(6, 3, 0), true);
        due("look", x.look(6, 3), 0);
        for (int p : new int[] {-1, 15, 40, MAX, MIN}) {
            due("place " + p, x.put(4, p, 1), false);
        }
        due("an empty rack", x.put(0, 0, 1), false);
        x.lamp(0);
        due("a lamp", x.put(0, 0, 1), false);
        for (int rack : WRONG_RACKS) {
            due("rack " + rack, x.put(rack, 0, 1), false);
        }
    }

    private static void putBeads() {
        BeadLoom x = new BeadLoom();
        x.bead(5, false);
        x.bead(6, true);
        fill(x, 0, 7, 0, 1, NONE);
        fill(x, 1, 8, 1, NONE);
        for (long v : new long[] {2, -2, 200, 4294967296L, 4294967297L, -4294967296L,
            4294967295L, Long.MAX_VALUE, Long.MIN_VALUE}) {
            due("no bead " + v, x.put(0, 0, v), false);
            due("no pearl " + v, x.put(1, 0, v), false);
        }
        due("a bead is no pearl", x.put(1, 0, 0), false);
        holds(x, 0, 0, 1, NONE);
        holds(x, 1, 1, NONE);
        due("nothing again", x.put(0, 0, NONE) && x.put(1, 0, NONE), true);
        holds(x, 0, NONE, 1, NONE);
        holds(x, 1, NONE, NONE);
        due("no such place", x.put(0, 3, NONE), false);
    }

    private static void look() {
        BeadLoom x = new BeadLoom();
        fill(x, 0, 5, Long.MIN_VALUE, 1, Long.MAX_VALUE);
        holds(x, 0, Long.MIN_VALUE, 1, Long.MAX_VALUE);
        x.make(1, 7, 2);
        due("nothing", x.look(1, 1), NONE);
        for (int p : new int[] {-1, 3, 39, 40, MAX, MIN}) {
            due("numbers' place " + p, x.look(0, p), 0);
            due("beads' place " + p, x.look(1, p), 0);
        }
        due("an empty rack", x.look(2, 0), 0);
        x.lamp(2);
        due("a lamp", x.look(2, 0), 0);
        for (int rack : WRONG_RACKS) {
            due("rack " + rack, x.look(rack, 0), 0);
        }
    }

    private static void moveAndItsOrderOfReasons() {
        BeadLoom x = new BeadLoom();
        x.lamp(1);
        fill(x, 2, 4, 1, 2, 3);
        fill(x, 3, 5, 7, 8, 9);
        due("empty ahead of lamp and bounds", x.move(1, -1, 0, -1, -1), 1);
        due("empty ahead of lamp", x.move(0, 0, 1, 0, 0), 1);
        due("both empty", x.move(0, 0, 0, 0, 0), 1);
        due("lamps", x.move(1, 0, 1, 0, 0), 2);
        due("lamp ahead of bounds", x.move(1, -1, 2, 0, 99), 2);
        due("to a lamp", x.move(2, 0, 1, 0, 0), 2);
        due("unlike kinds ahead of bounds", x.move(2, 0, 3, 0, 99), 2);
        due("bounds", x.move(2, 1, 2, 0, 3), 3);
        tells(x, 0, 3, 4, 1, 0, 0);
        due("done", x.move(2, 1, 2, 0, 2), 0);
        tells(x, 2, 3, 4, 1, 0, 1);
        holds(x, 2, 2, 3, 3);
        for (int rack : WRONG_RACKS) {
            due("from rack " + rack, x.move(rack, 0, 2, 0, 1), NONE);
            due("to rack " + rack, x.move(2, 0, rack, 0, 1), NONE);
            due("ahead of an empty one", x.move(rack, 0, 0, 0, 1), NONE);
        }
        tells(x, 2, 3, 4, 1, 0, 1);
    }

    private static void moveOfUnlikeKinds() {
        BeadLoom x = new BeadLoom();
        for (int kind = 1; kind <= 8; kind++) {
            x.make(kind - 1, kind, 2);
        }
        for (int a = 1; a <= 8; a++) {
            for (int b = 1; b <= 8; b++) {
                boolean like = a == b || (a >= 7 && b >= 7);
                due("kinds " + a + ", " + b, x.move(a - 1, 0, b - 1, 0, 2), like ? 0 : 2);
            }
        }
        due("refused", x.about(2), 54);
        due("done", x.about(5), 10);
    }

    private static void moveAndItsBounds() {
        BeadLoom x = new BeadLoom();
        fill(x, 0, 4, 1, 2, 3, 4, 5);
        fill(x, 1, 4, 6, 7, 8);
        int[][] outside = {{-1, 0, 1}, {0, -1, 1}, {0, 0, -1}, {0, 0, 4}, {3, 0, 3}, {0, 2, 2}, {6, 0, 0},
            {0, 4, 0}, {MAX, 0, 1}, {0, MAX, 1}, {0, 0, MAX}, {MAX, 0, MAX}, {0, MAX, MAX}, {MIN, 0, 0},
            {0, MIN, 0}, {0, 0, MIN}, {MIN, 0, MAX}, {1, 0, MAX}, {MAX, MAX, MIN}, {-1, 0, 0}, {0, -1, 0},
            {5, 0, -1}};
        for (int[] o : outside) {
            due("move(0, " + o[0] + ", 1, " + o[1] + ", " + o[2] + ")", x.move(0, o[0], 1, o[1], o[2]), 3);
        }
        tells(x, 0, 0, 0, outside.length, 0, 0);
        holds(x, 0, 1, 2, 3, 4, 5);
        holds(x, 1, 6, 7, 8);
        due("none at both ends", x.move(0, 5, 1, 3, 0), 0);
        tells(x, 0, 0, 0, outside.length, 0, 1);
        due("all", x.move(0, 2, 1, 0, 3), 0);
        holds(x, 0, 1, 2, 3, 4, 5);
        holds(x, 1, 3, 4, 5);
        tells(x, 3, 0, 0, outside.length, 0, 2);
        due("some", x.move(1, 1, 0, 0, 2), 0);
        holds(x, 0, 4, 5, 3, 4, 5);
        due("CAME is 0 again by a refusal", x.move(1, 3, 0, 0, 2), 3);
        tells(x, 0, 0, 0, outside.length + 1, 0, 3);
    }

    private static void moveWithinOneRack() {
        BeadLoom x = new BeadLoom();
        for (int kind = 1; kind <= 5; kind++) {
            fill(x, 0, kind, 1, 2, 3, 4, 5);
            due("up", x.move(0, 0, 0, 1, 4), 0);
            holds(x, 0, 1, 1, 2, 3, 4);
            due("down", x.move(0, 2, 0, 0, 3), 0);
            holds(x, 0, 2, 3, 4, 3, 4);
            due("onto itself", x.move(0, 0, 0, 0, 5), 0);
            holds(x, 0, 2, 3, 4, 3, 4);
        }
        for (int k = 0; k < 4; k++) {
            x.bead(k, true);
        }
        for (int kind = 7; kind <= 8; kind++) {
            fill(x, 0, kind, 0, 1, NONE, 3);
            due("up", x.move(0, 0, 0, 1, 3), 0);
            holds(x, 0, 0, 0, 1, NONE);
        }
    }

    private static void moveToPearls() {
        BeadLoom x = new BeadLoom();
        x.bead(1, true);
        x.bead(2, false);
        x.bead(3, true);
        fill(x, 0, 7, 0, NONE, 2, 1, 0, 1);
        fill(x, 1, 8, 2, 2, 2, 2, 2, 2);
        due("up to the bead", x.move(0, 0, 1, 0, 6), 4);
        tells(x, 3, 0, 0, 0, 1, 0);
        holds(x, 1, 0, NONE, 2, 2, 2, 2);
        holds(x, 0, 0, NONE, 2, 1, 0, 1);
        due("at once", x.move(0, 3, 1, 0, 2), 4);
        tells(x, 0, 0, 0, 0, 2, 0);
        holds(x, 1, 0, NONE, 2, 2, 2, 2);
        due("the last one", x.move(0, 4, 1, 4, 2), 4);
        tells(x, 1, 0, 0, 0, 3, 0);
        holds(x, 1, 0, NONE, 2, 2, 0, 2);
        due("just ahead of the bead", x.move(0, 0, 1, 3, 3), 0);
        tells(x, 3, 0, 0, 0, 3, 1);
        holds(x, 1, 0, NONE, 2, 0, NONE, 2);
        due("bounds ahead of pearls", x.move(0, 3, 1, 0, 4), 3);
        due("nothing of a bead", x.move(0, 3, 1, 0, 0), 0);
        due("from pearls to beads", x.move(1, 0, 0, 0, 6), 0);
        holds(x, 0, 0, NONE, 2, 0, NONE, 2);
        tells(x, 6, 0, 0, 1, 3, 3);
        due("no more than n, though a pearl lies behind", x.move(0, 2, 1, 3, 1), 0);
        holds(x, 1, 0, NONE, 2, 2, NONE, 2);
        tells(x, 1, 0, 0, 1, 3, 4);
        x.make(2, 7, 6);
        due("nothing may come to beads", x.move(2, 0, 0, 0, 6), 0);
        due("nothing may come to pearls", x.move(2, 0, 1, 0, 6), 0);
        holds(x, 1, NONE, NONE, NONE, NONE, NONE, NONE);
    }

    private static void open() {
        BeadLoom x = new BeadLoom();
        fill(x, 0, 2, 1, 2, 3, 4);
        due("in the middle", x.open(0, 1), 0);
        holds(x, 0, 1, 0, 2, 3);
        tells(x, 2, 0, 0, 0, 0, 1);
        due("the first", x.open(0, 0), 0);
        holds(x, 0, 0, 1, 0, 2);
        tells(x, 3, 0, 0, 0, 0, 2);
        due("the last", x.open(0, 3), 0);
        holds(x, 0, 0, 1, 0, 0);
        tells(x, 0, 0, 0, 0, 0, 3);
        for (int p : new int[] {-1, 4, 5, 40, MAX, MIN, MIN + 3}) {
            due("place " + p, x.open(0, p), 3);
        }
        holds(x, 0, 0, 1, 0, 0);
        due("empty", x.open(1, -1), 1);
        x.lamp(1);
        due("a lamp", x.open(1, -1), 2);
        x.make(1, 4, 0);
        for (int p : new int[] {-2, -1, 0, 1, MAX, MIN}) {
            due("no places at all, " + p, x.open(1, p), 3);
        }
        tells(x, 0, 1, 1, 13, 0, 3);
        for (int rack : WRONG_RACKS) {
            due("rack " + rack, x.open(rack, 0), NONE);
        }
        tells(x, 0, 1, 1, 13, 0, 3);
        openBeads(x);
    }

    private static void openBeads(BeadLoom x) {
        x.bead(1, true);
        x.bead(2, true);
        for (int kind = 7; kind <= 8; kind++) {
            fill(x, 2, kind, 0, 1, 0);
            due("beads", x.open(2, 1), 0);
            holds(x, 2, 0, NONE, 1);
        }
        fill(x, 2, 6, 1, 1);
        due("truths", x.open(2, 0), 0);
        holds(x, 2, 0, 1);
    }

    private static void close() {
        BeadLoom x = new BeadLoom();
        fill(x, 0, 2, 1, 2, 3, 4);
        due("in the middle", x.close(0, 1), 0);
        holds(x, 0, 1, 3, 4, 0);
        tells(x, 2, 0, 0, 0, 0, 1);
        due("the first", x.close(0, 0), 0);
        holds(x, 0, 3, 4, 0, 0);
        tells(x, 3, 0, 0, 0, 0, 2);
        x.put(0, 3, 9);
        due("the last", x.close(0, 3), 0);
        holds(x, 0, 3, 4, 0, 0);
        tells(x, 0, 0, 0, 0, 0, 3);
        x.put(0, 3, 9);
        for (int p : new int[] {-1, 4, 5, 40, MAX, MIN, MIN + 3}) {
            due("place " + p, x.close(0, p), 3);
        }
        holds(x, 0, 3, 4, 0, 9);
        due("empty", x.close(1, -1), 1);
        x.lamp(1);
        due("a lamp", x.close(1, -1), 2);
        x.make(1, 4, 0);
        for (int p : new int[] {-2, -1, 0, 1, MAX, MIN}) {
            due("no places at all, " + p, x.close(1, p), 3);
        }
        tells(x, 0, 1, 1, 13, 0, 3);
        for (int rack : WRONG_RACKS) {
            due("rack " + rack, x.close(rack, 0), NONE);
        }
        tells(x, 0, 1, 1, 13, 0, 3);
        closeBeads(x);
    }

    private static void closeBeads(BeadLoom x) {
        x.bead(1, true);
        x.bead(2, true);
        for (int kind = 7; kind <= 8; kind++) {
            fill(x, 2, kind, 0, 1, 0);
            due("beads", x.close(2, 0), 0);
            holds(x, 2, 1, 0, NONE);
        }
        fill(x, 2, 6, 1, 1);
        due("truths", x.close(2, 0), 0);
        holds(x, 2, 1, 0);
    }

    private static void turn() {
        BeadLoom x = new BeadLoom();
        fill(x, 0, 4, 1, 2, 3, 4, 5);
        due("by 2", x.turn(0, 2), 0);
        holds(x, 0, 4, 5, 1, 2, 3);
        due("by -3", x.turn(0, -3), 0);
        holds(x, 0, 2, 3, 4, 5, 1);
        due("by 0", x.turn(0, 0), 0);
        due("by 5", x.turn(0, 5), 0);
        due("by -10", x.turn(0, -10), 0);
        holds(x, 0, 2, 3, 4, 5, 1);
        // 2147483647 is 2 more than a multiple of 5, -2147483648 is 2 more than one as well.
        due("by MAX", x.turn(0, MAX), 0);
        holds(x, 0, 5, 1, 2, 3, 4);
        due("by MIN", x.turn(0, MIN), 0);
        holds(x, 0, 3, 4, 5, 1, 2);
        x.make(1, 4, 0);
        due("no places", x.turn(1, 3), 0);
        fill(x, 1, 4, 8);
        due("one place", x.turn(1, MIN), 0);
        holds(x, 1, 8);
        x.bead(1, true);
        fill(x, 1, 8, 0, NONE, NONE);
        due("pearls", x.turn(1, 1), 0);
        holds(x, 1, NONE, 0, NONE);
        due("empty", x.turn(2, 1), 1);
        x.lamp(2);
        due("a lamp", x.turn(2, 1), 2);
        for (int rack : WRONG_RACKS) {
            due("rack " + rack, x.turn(rack, 0), NONE);
        }
        tells(x, 0, 0, 0, 0, 0, 0);
    }

    private static void turnIsNoMoving() {
        BeadLoom x = new BeadLoom();
        fill(x, 0, 4, 1, 2, 3);
        x.move(0, 0, 0, 1, 2);
        x.turn(0, 1);
        x.turn(1, 1);
        tells(x, 2, 0, 0, 0, 0, 1);
    }

    private static void step() {
        BeadLoom x = new BeadLoom();
        for (int rack : WRONG_RACKS) {
            due("from rack " + rack, x.step(rack, 0, 0, 0, 0), NONE);
            due("to rack " + rack, x.step(0, 0, rack, 0, 0), NONE);
        }
        due("steps", x.about(7), 0);
        for (int k = 1; k <= 24; k++) {
            due("step " + k, x.step(k % 8, MIN, 7 - k % 8, MAX, -1), k);
            due("steps", x.about(7), k);
        }
        due("the 25th", x.step(0, 0, 0, 0, 0), NONE);
        due("steps", x.about(7), 24);
        tells(x, 0, 0, 0, 0, 0, 0);
    }

    private static void forget() {
        BeadLoom x = new BeadLoom();
        due("none", x.forget(), 0);
        for (int k = 0; k < 24; k++) {
            x.step(0, 0, 0, 0, 0);
        }
        due("24", x.forget(), 24);
        due("again", x.forget(), 0);
        due("steps", x.about(7), 0);
        due("weave", x.weave(1, false), NONE);
        tells(x, 0, 0, 0, 0, 0, 0);
        fill(x, 0, 4, 1, 2);
        due("a step anew", x.step(0, 0, 0, 1, 1), 1);
        due("only that is woven", x.weave(1, false), 1);
        holds(x, 0, 1, 1);
    }

    private static void weave() {
        BeadLoom x = new BeadLoom();
        fill(x, 0, 4, 1, 2, 3, 4);
        x.make(1, 4, 4);
        due("without steps", x.weave(1, false), NONE);
        x.step(0, 0, 1, 0, 4);
        x.step(1, 0, 0, 1, 3);
        for (int rounds : new int[] {0, -1, 51, MAX, MIN}) {
            due("rounds " + rounds, x.weave(rounds, false), NONE);
            due("whole rounds " + rounds, x.weave(rounds, true), NONE);
        }
        tells(x, 0, 0, 0, 0, 0, 0);
        due("one round", x.weave(1, false), 2);
        holds(x, 0, 1, 1, 2, 3);
        holds(x, 1, 1, 2, 3, 4);
        due("two rounds", x.weave(2, true), 4);
        holds(x, 0, 1, 1, 1, 1);
        holds(x, 1, 1, 1, 1, 2);
        due("rounds", x.about(8), 3);
        due("50 rounds", x.weave(50, true), 100);
        due("50 rounds", x.weave(50, false), 100);
        due("rounds", x.about(8), 103);
        tells(x, 3, 0, 0, 0, 0, 206);
        due("steps", x.about(7), 2);
    }

    private static void weaveTo24Steps() {
        BeadLoom x = new BeadLoom();
        fill(x, 0, 5, 1, 2);
        for (int k = 0; k < 24; k++) {
            x.step(0, k % 2, 0, (k + 1) % 2, 1);
        }
        due("all", x.weave(50, true), 1200);
        tells(x, 1, 0, 0, 0, 0, 1200);
        due("rounds", x.about(8), 50);
    }

    /** A pattern that is refused in its first round by the second of three steps. */
    private static BeadLoom refusedAtOnce() {
        BeadLoom x = new BeadLoom();
        fill(x, 0, 4, 1, 2, 3);
        x.step(0, 0, 0, 1, 2);
        x.step(0, 0, 1, 0, 1);
        x.step(0, 0, 0, 1, 2);
        return x;
    }

    private static void weaveRefused() {
        BeadLoom x = refusedAtOnce();
        due("not whole", x.weave(5, false), 1);
        holds(x, 0, 1, 1, 2);
        tells(x, 0, 1, 0, 0, 0, 1);
        due("rounds", x.about(8), 0);
        x = refusedAtOnce();
        due("whole", x.weave(5, true), 0);
        holds(x, 0, 1, 2, 3);
        tells(x, 0, 1, 0, 0, 0, 1);
        due("rounds", x.about(8), 0);
        x.make(1, 4, 1);
        due("the rack is there now", x.weave(1, true), 3);
        holds(x, 0, 1, 1, 1);
        holds(x, 1, 1);
        due("rounds", x.about(8), 1);
    }

    /** A bead that isn't a pearl wanders to place 1 of rack 0, and is refused in the third round. */
    private static BeadLoom refusedInThirdRound() {
        BeadLoom x = new BeadLoom();
        x.bead(10, true);
        x.bead(20, false);
        fill(x, 0, 7, NONE, 0, NONE, 0, 1);
        fill(x, 1, 8, NONE, NONE);
        x.step(0, 1, 0, 0, 4);
        x.step(0, 0, 1, 0, 2);
        return x;
    }

    private static void weaveRefusedInALaterRound() {
        BeadLoom x = refusedInThirdRound();
        due("two rounds", x.weave(2, true), 4);
        holds(x, 0, NONE, 0, 1, 1, 1);
        holds(x, 1, NONE, 0);
        x = refusedInThirdRound();
        due("not whole", x.weave(9, false), 5);
        holds(x, 0, 0, 1, 1, 1, 1);
        holds(x, 1, 0, 0);
        tells(x, 1, 0, 0, 0, 1, 5);
        due("rounds", x.about(8), 2);
        x = refusedInThirdRound();
        due("whole", x.weave(9, true), 4);
        holds(x, 0, NONE, 0, 1, 1, 1);
        holds(x, 1, NONE, 0);
        tells(x, 1, 0, 0, 0, 1, 5);
        due("rounds", x.about(8), 2);
        due("steps", x.about(7), 2);
        due("whole again", x.weave(1, true), 0);
        holds(x, 0, NONE, 0, 1, 1, 1);
        holds(x, 1, NONE, 0);
        tells(x, 1, 0, 0, 0, 2, 6);
    }

    private static void weaveTakesBackAllRows() {
        BeadLoom x = new BeadLoom();
        for (int r = 0; r < 8; r++) {
            x.make(r, 5, 40);
            x.put(r, 0, r + 1);
            x.put(r, 39, 100 + r);
        }
        for (int r = 0; r < 8; r++) {
            x.step(r, 0, (r + 1) % 8, 1, 39);
        }
        x.step(0, 40, 0, 41, 0);
        due("whole", x.weave(50, true), 0);
        for (int r = 0; r < 8; r++) {
            due("first", x.look(r, 0), r + 1);
            due("second", x.look(r, 1), 0);
            due("last", x.look(r, 39), 100 + r);
            due("shade", x.shade(r), 101 + 2 * r);
        }
        tells(x, 0, 0, 0, 1, 0, 8);
        due("not whole", x.weave(50, false), 8);
        due("moved", x.look(7, 1), 7);
    }

    private static void alike() {
        BeadLoom x = new BeadLoom();
        fill(x, 0, 1, 1, 2, -1, 4);
        fill(x, 1, 5, 1, 2, -1, 5);
        fill(x, 2, 3, 1, 2, -1);
        fill(x, 3, 4, 1, 2);
        fill(x, 4, 6, 1, 0, 1);
        due("up to the first that don't", x.alike(0, 1), 3);
        due("the other way", x.alike(1, 0), 3);
        due("chars have no sign", x.alike(0, 2), 2);
        due("the shorter one", x.alike(3, 0), 2);
        due("the shorter one", x.alike(0, 3), 2);
        due("numbers and truths", x.alike(0, 4), 0);
        due("truths and numbers", x.alike(4, 3), 0);
        due("one rack", x.alike(0, 0), 4);
        due("truths", x.alike(4, 4), 3);
        x.make(5, 2, 0);
        due("no places", x.alike(0, 5), 0);
        due("no places", x.alike(5, 5), 0);
        due("empty", x.alike(6, 0), NONE);
        due("empty", x.alike(0, 6), NONE);
        x.lamp(6);
        due("a lamp", x.alike(6, 0), NONE);
        due("a lamp", x.alike(0, 6), NONE);
        due("lamps", x.alike(6, 6), NONE);
        for (int rack : WRONG_RACKS) {
            due("rack " + rack, x.alike(rack, 0), NONE);
            due("rack " + rack, x.alike(0, rack), NONE);
        }
        x.make(0, 4, 3);
        x.make(1, 2, 5);
        due("what a row hasn't is not a 0", x.alike(0, 1), 3);
        fill(x, 4, 6, 0, 5, 0);
        fill(x, 7, 6, 0, -5, 1);
        due("truths", x.alike(4, 7), 2);
    }

    private static void alikeBeads() {
        BeadLoom x = new BeadLoom();
        x.bead(5, true);
        x.bead(5, true);
        fill(x, 0, 7, NONE, 0, 0, 1);
        fill(x, 1, 8, NONE, 0, 1, 1);
        fill(x, 2, 4, -1, 0, 0, 1);
        fill(x, 3, 6, 0, 0);
        due("beads of one colour aren't the same", x.alike(0, 1), 2);
        due("the other way", x.alike(1, 0), 2);
        due("beads and numbers", x.alike(0, 2), 0);
        due("numbers and pearls", x.alike(2, 1), 0);
        due("truths and beads", x.alike(3, 0), 0);
        due("one rack", x.alike(1, 1), 4);
    }

    private static void shade() {
        BeadLoom x = new BeadLoom();
        fill(x, 0, 5, Long.MAX_VALUE, Long.MAX_VALUE, 3);
        due("wrapped", x.shade(0), 1);
        fill(x, 1, 4, MAX, MAX, MAX);
        due("beyond an int", x.shade(1), 6442450941L);
        fill(x, 1, 1, -128, -128, 1);
        due("with their sign", x.shade(1), -255);
        fill(x, 1, 3, -1, -1);
        due("chars", x.shade(1), 131070);
        fill(x, 2, 6, 5, 0, -5, 1);
        due("truths", x.shade(2), 3);
        x.bead(MAX, true);
        x.bead(-5, false);
        fill(x, 3, 7, 0, 1, NONE, 0, 0);
        due("each as often as it lies there", x.shade(3), 6442450936L);
        fill(x, 4, 8, NONE, 0, 0);
        due("pearls", x.shade(4), 4294967294L);
        x.make(5, 4, 0);
        due("no places", x.shade(5), 0);
        x.make(5, 7, 9);
        due("nothing", x.shade(5), 0);
        due("empty", x.shade(6), 0);
        x.lamp(6);
        due("a lamp", x.shade(6), 0);
        for (int rack : WRONG_RACKS) {
            due("rack " + rack, x.shade(rack), 0);
        }
    }

    private static void rack() {
        BeadLoom x = new BeadLoom();
        x.make(0, 8, 40);
        x.lamp(1);
        due("kind", x.rack(0, 0), 8);
        due("places", x.rack(0, 1), 40);
        due("lamp", x.rack(1, 0), 9);
        due("lamp's places", x.rack(1, 1), 0);
        due("empty", x.rack(2, 0), 0);
        due("empty's places", x.rack(2, 1), 0);
        for (int what : new int[] {-1, 2, 3, MAX, MIN}) {
            due("what " + what, x.rack(0, what), NONE);
            due("what " + what, x.rack(2, what), NONE);
        }
        for (int rack : WRONG_RACKS) {
            due("kind of rack " + rack, x.rack(rack, 0), NONE);
            due("places of rack " + rack, x.rack(rack, 1), NONE);
        }
    }

    private static void about() {
        BeadLoom x = refusedInThirdRound();
        x.weave(9, true);
        x.move(7, 0, 7, 0, 0);
        x.lamp(7);
        x.move(7, 0, 7, 0, 0);
        x.move(7, 0, 7, 0, 0);
        x.open(0, 5);
        x.close(0, 5);
        x.close(0, -1);
        tells(x, 0, 1, 2, 3, 1, 5);
        due("beads", x.about(6), 2);
        due("steps", x.about(7), 2);
        due("rounds", x.about(8), 2);
        x.open(0, 0);
        tells(x, 4, 1, 2, 3, 1, 6);
        for (int what : new int[] {-1, 9, 10, MAX, MIN}) {
            due("what " + what, x.about(what), NONE);
        }
        x.make(0, 4, 2);
        x.empty(1);
        tells(x, 4, 1, 2, 3, 1, 6);
    }

    private static void begin(int promise) {
        section = "promise " + promise;
    }

    private static void promises1To9() {
        begin(1);
        newObject();
        twoObjectsAreApart();
        begin(2);
        make();
        begin(3);
        lamp();
        begin(4);
        empty();
        begin(5);
        bead();
        begin(6);
        paint();
        begin(7);
        colour();
        begin(8);
        put();
        putBeads();
        begin(9);
        look();
    }

    private static void promises10To15() {
        begin(10);
        moveAndItsOrderOfReasons();
        moveOfUnlikeKinds();
        moveAndItsBounds();
        moveWithinOneRack();
        moveToPearls();
        begin(11);
        open();
        begin(12);
        close();
        begin(13);
        turn();
        turnIsNoMoving();
        begin(14);
        step();
        begin(15);
        forget();
    }

    private static void promises16To20() {
        begin(16);
        weave();
        weaveTo24Steps();
        weaveRefused();
        weaveRefusedInALaterRound();
        weaveTakesBackAllRows();
        begin(17);
        alike();
        alikeBeads();
        begin(18);
        shade();
        begin(19);
        rack();
        begin(20);
        about();
    }

    /** A call that doesn't end is a fault too: the test then ends all the same. */
    private static void endInTime() {
        Thread watch = new Thread(() -> {
            try {
                Thread.sleep(MOST_SECONDS * 1000L);
            } catch (InterruptedException stopped) {
                return;
            }
            System.out.println(section + ": a call hasn't ended in " + MOST_SECONDS + " seconds");
            System.out.flush();
            Runtime.getRuntime().halt(1);
        });
        watch.setDaemon(true);
        watch.start();
    }

    public static void main(String[] args) {
        endInTime();
        promises1To9();
        promises10To15();
        promises16To20();
        System.out.println(checks + " checks, " + wrong + " wrong");
        if (wrong != 0) {
            System.exit(1);
        }
    }
}
