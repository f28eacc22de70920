/** Each promise by itself: ordinary inputs, the edges that the document names, wrong inputs. */
public final class PromisesTest {
    private static final int BAD = -1, STATE = -2, FULL = -3, NONE = -4;
    private static final int OVEN = 0, BIG = 1, OLD = 2, SHRINE = 3, WEAK = 4;
    private static final int BYTES = 0, INTS = 1, LONGS = 2;
    private static final int[] FAR_OFF = {-1, Integer.MIN_VALUE, Integer.MAX_VALUE};

    private final Check check = new Check();
    private BreadOvens x = new BreadOvens();

    public static void main(String[] args) {
        PromisesTest t = new PromisesTest();
        t.newObject();
        t.village();
        t.loaves();
        t.road();
        t.place();
        t.reach();
        t.number();
        t.map();
        t.lay();
        t.draw();
        t.drawRefused();
        t.apart();
        t.way();
        t.allowed();
        t.cost();
        t.costOfKinds();
        t.served();
        t.share();
        t.leastBestMany();
        t.every();
        t.second();
        t.lose();
        t.worst();
        t.farthestNearest();
        t.added();
        t.changed();
        t.moves();
        t.price();
        t.gives();
        t.worth();
        t.bound();
        t.climb();
        t.climbAtTheEdges();
        t.highest();
        t.undo();
        t.undoOfDraw();
        t.undoKeepsTen();
        t.count();
        t.fullValley();
        t.check.finish();
    }

    private void due(String call, long got, long want) {
        check.due(call, got, want);
    }

    private void villages(int... loaves) {
        x = new BreadOvens();
        for (int n : loaves) {
            x.village(n);
        }
    }

    /** Villages 0, 1, 2, .. in one row, each road as long as told. */
    private void row(int[] loaves, int... lengths) {
        villages(loaves);
        for (int i = 0; i < lengths.length; i++) {
            x.road(i, i + 1, lengths[i]);
        }
    }

    private static int[] all(int... numbers) {
        return numbers;
    }

    private void newObject() {
        x = new BreadOvens();
        int[] counts = {0, 0, 0, 3, 0, 0};
        for (int what = 0; what < counts.length; what++) {
            due("1: count(" + what + ") of a new object", x.count(what), counts[what]);
        }
        for (int k = 0; k < 4; k++) {
            due("1: draw of map " + k + " of a new object", x.draw(k, BYTES, 0), -11);
        }
        due("1: undo", x.undo(), NONE);
        due("1: moves", x.moves(), 0);
        due("1: highest", x.highest(), 0);
        due("1: least", x.least(), 0);
        due("1: best", x.best(), 0);
        due("1: many", x.many(), 1);
        due("1: farthest", x.farthest(), 0);
        due("1: nearest", x.nearest(), 0);
        due("1: worst", x.worst(), NONE);
        due("1: bound", x.bound(), 0);
        due("1: added", x.added(), 0);
        due("1: changed", x.changed(0), 0);
        due("1: climb", x.climb(3, 1), 0);
        due("1: cost(0)", x.cost(0), 0);
        due("1: cost(1)", x.cost(1), BAD);
    }

    private void village() {
        villages();
        due("2: village(-1)", x.village(-1), BAD);
        due("2: village(1001)", x.village(1001), BAD);
        due("2: a refused one changes nothing", x.count(0), 0);
        for (int v = 0; v < 12; v++) {
            due("2: village " + v, x.village(v == 0 ? 0 : 1000), v);
        }
        due("2: all", x.count(0), 12);
        due("2: all loaves", x.count(4), 11000);
        due("2: one more", x.village(1), FULL);
        due("2: one more, and wrong", x.village(1001), BAD);
        due("2: still all", x.count(0), 12);
    }

    private void loaves() {
        villages(7, 8);
        due("3: loaves(1, 0)", x.loaves(1, 0), 8);
        due("3: loaves(1, 1000)", x.loaves(1, 1000), 0);
        due("3: loaves(1, 1001)", x.loaves(1, 1001), BAD);
        due("3: loaves(1, -1)", x.loaves(1, -1), BAD);
        due("3: loaves(2, 1)", x.loaves(2, 1), BAD);
        due("3: loaves(-1, 1)", x.loaves(-1, 1), BAD);
        due("3: loaves(1, 5)", x.loaves(1, 5), 1000);
        due("3: all", x.count(4), 12);
    }

    private void road() {
        villages(1, 1, 1);
        due("4: road(0, 1, 1)", x.road(0, 1, 1), 0);
        due("4: road(1, 0, 1000): the same road", x.road(1, 0, 1000), 1);
        due("4: one road", x.count(2), 1);
        due("4: road(0, 1, 1001)", x.road(0, 1, 1001), BAD);
        due("4: road(0, 1, -1)", x.road(0, 1, -1), BAD);
        due("4: road(2, 2, 5)", x.road(2, 2, 5), BAD);
        due("4: road(0, 3, 5)", x.road(0, 3, 5), BAD);
        due("4: road(3, 0, 5)", x.road(3, 0, 5), BAD);
        due("4: road(-1, 0, 5)", x.road(-1, 0, 5), BAD);
        due("4: road(0, -1, 5)", x.road(0, -1, 5), BAD);
        due("4: the way over it", x.apart(1, 0), 1000);
        due("4: road(0, 1, 0)", x.road(0, 1, 0), 1000);
        due("4: none", x.count(2), 0);
        due("4: no way", x.apart(0, 1), NONE);
        due("4: road(0, 1, 0) again", x.road(0, 1, 0), 0);
    }

    private void place() {
        villages(1);
        due("5: place(1, 0, 0)", x.place(1, OVEN, 0), BAD);
        due("5: place(-1, 0, 0)", x.place(-1, OVEN, 0), BAD);
        due("5: place(0, 5, 0)", x.place(0, 5, 0), BAD);
        due("5: place(0, -1, 0)", x.place(0, -1, 0), BAD);
        due("5: place(0, 0, -1)", x.place(0, OVEN, -1), BAD);
        due("5: place(0, 0, 100001)", x.place(0, OVEN, 100001), BAD);
        for (int p = 0; p < 10; p++) {
            due("5: place " + p, x.place(0, p % 5, p == 0 ? 100000 : 0), p);
        }
        due("5: one more", x.place(0, OVEN, 0), FULL);
        due("5: one more, and wrong", x.place(0, 5, 0), BAD);
        due("5: all", x.count(1), 10);
        due("5: its cost", x.cost(1), 100000);
    }

    private void reach() {
        row(all(1, 1), 21);
        x.place(0, WEAK, 0);
        x.place(0, OVEN, 0);
        due("6: beyond 20", x.served(1, 1), NONE);
        due("6: reach(0, 21)", x.reach(0, 21), 20);
        due("6: just within", x.served(1, 1), 0);
        due("6: reach(0, 12001)", x.reach(0, 12001), BAD);
        due("6: reach(0, -1)", x.reach(0, -1), BAD);
        due("6: reach(2, 5)", x.reach(2, 5), BAD);
        due("6: reach(-1, 5)", x.reach(-1, 5), BAD);
        due("6: reach(1, 5) of an oven", x.reach(1, 5), STATE);
        due("6: reach(1, -1) of an oven", x.reach(1, -1), BAD);
        due("6: reach(0, 12000)", x.reach(0, 12000), 21);
        due("6: reach(0, 0)", x.reach(0, 0), 12000);
        due("6: its own village", x.served(1, 0), 0);
        due("6: no other", x.served(1, 1), NONE);
        for (int kind = BIG; kind <= SHRINE; kind++) {
            int p = x.place(0, kind, 0);
            due("6: reach of kind " + kind, x.reach(p, 5), STATE);
        }
    }

    private void number() {
        villages();
        due("7: number(21)", x.number(21), BAD);
        due("7: number(-1)", x.number(-1), BAD);
        due("7: number(20)", x.number(20), 3);
        due("7: number(0)", x.number(0), 20);
        due("7: number(1)", x.number(1), 0);
        due("7: count", x.count(3), 1);
    }

    private void map() {
        villages(1, 1);
        for (int far : FAR_OFF) {
            due("8: map of no such number", x.map(far, INTS, 1), BAD);
            due("8: map of no such lane", x.map(0, far, 1), BAD);
        }
        due("8: map(4, ..)", x.map(4, INTS, 1), BAD);
        due("8: map(.., 3, ..)", x.map(0, 3, 1), BAD);
        due("8: 61 cells", x.map(0, INTS, 61), BAD);
        due("8: below 0 and no such map", x.map(4, INTS, -1), BAD);
        due("8: below 0 and no such lane", x.map(0, 3, -1), BAD);
        due("8: below 0", x.map(0, INTS, -1), -14);
        due("8: far below 0", x.map(0, INTS, Integer.MIN_VALUE), -14);
        due("8: still nothing", x.lay(0, 0, 1), -11);
        due("8: 60 cells", x.map(3, LONGS, 60), 1);
        due("8: the last cell", x.lay(3, 59, 1), 1);
        due("8: no cells", x.map(0, BYTES, 0), 1);
        due("8: none can be laid", x.lay(0, 0, 1), -12);
        x.map(0, INTS, 3);
        x.lay(0, 0, 1);
        x.lay(0, 2, 6);
        due("8: refused", x.map(0, INTS, -1), -14);
        due("8: the row is as it was", x.draw(0, INTS, 1), 1);
        due("8: a new row", x.map(0, INTS, 3), 1);
        due("8: its cells are 0", x.draw(0, INTS, 1), -21);
        x.lay(0, 1, 1);
        due("8: its first cell is 0", x.draw(0, INTS, 1), 1);
        due("8: its length is 0", x.draw(0, INTS, 1), 1);
        due("8: no road", x.count(2), 0);
        due("8: a shorter row", x.map(0, INTS, 2), 1);
        due("8: its third cell", x.lay(0, 2, 1), -12);
        due("8: draw from it", x.draw(0, INTS, 1), -12);
    }

    private void lay() {
        villages(1, 1);
        for (int far : FAR_OFF) {
            due("9: no such map", x.lay(far, 0, 1), BAD);
        }
        due("9: no such map", x.lay(4, 0, 1), BAD);
        due("9: nothing", x.lay(1, -1, 1), -11);
        x.map(1, BYTES, 3);
        for (int far : FAR_OFF) {
            due("9: cell " + far, x.lay(1, far, 1), -12);
        }
        due("9: cell 3", x.lay(1, 3, 1), -12);
        due("9: cell 0 is 2", x.lay(1, 0, 2), 1);
        due("9: no village 2", x.draw(1, BYTES, 1), -21);
        due("9: cell 0 is 0", x.lay(1, 0, -256), 1);
        due("9: cell 1 is 1 by its lowest bits", x.lay(1, 1, 257), 1);
        due("9: cell 2 is 127", x.lay(1, 2, (1L << 40) + 127), 1);
        due("9: bytes", x.draw(1, BYTES, 1), 1);
        due("9: the road", x.apart(0, 1), 127);
        due("9: cell 2 is -128", x.lay(1, 2, 128), 1);
        due("9: bytes below 0", x.draw(1, BYTES, 1), -21);
        x.map(1, INTS, 3);
        x.lay(1, 1, (1L << 32) + 1);
        x.lay(1, 2, (7L << 32) + 900);
        due("9: ints", x.draw(1, INTS, 1), 1);
        due("9: the road", x.apart(0, 1), 900);
        x.lay(1, 2, 1L << 31);
        due("9: an int below 0", x.draw(1, INTS, 1), -21);
        x.map(1, LONGS, 3);
        x.lay(1, 1, 1);
        x.lay(1, 2, 1000);
        due("9: longs", x.draw(1, LONGS, 1), 1);
        due("9: the road", x.apart(0, 1), 1000);
    }

    private void draw() {
        villages(1, 1, 1);
        x.map(2, INTS, 60);
        int[] cells = {0, 1, 4, 1, 2, 5, 1, 0, 9, 2, 1, 0};
        for (int i = 0; i < cells.length; i++) {
            x.lay(2, i, cells[i]);
        }
        due("10: no road", x.draw(2, INTS, 0), 0);
        due("10: none", x.count(2), 0);
        due("10: two roads", x.draw(2, INTS, 2), 2);
        due("10: two", x.count(2), 2);
        due("10: the way over both", x.apart(0, 2), 9);
        due("10: four roads, the later on top", x.draw(2, INTS, 4), 4);
        due("10: one", x.count(2), 1);
        due("10: its length", x.apart(0, 1), 9);
        for (int i = 12; i < 60; i++) {
            x.lay(2, i, i % 3 == 2 ? i : i % 3);
        }
        due("10: all 20", x.draw(2, INTS, 20), 20);
        due("10: the last of them", x.apart(0, 1), 59);
        due("10: 21", x.draw(2, INTS, 21), -12);
        due("10: very many", x.draw(2, INTS, Integer.MAX_VALUE), -12);
    }

    private void drawRefused() {
        villages(1, 1, 1);
        for (int far : FAR_OFF) {
            due("10: no such map", x.draw(far, INTS, 1), BAD);
            due("10: no such lane", x.draw(0, far, 1), BAD);
        }
        due("10: no such map", x.draw(4, INTS, 1), BAD);
        due("10: no such lane", x.draw(0, 3, 1), BAD);
        due("10: below 0, of nothing", x.draw(0, INTS, -1), BAD);
        due("10: nothing", x.draw(0, INTS, 0), -11);
        x.map(0, LONGS, 8);
        due("10: another lane, no road", x.draw(0, INTS, 0), -13);
        due("10: another lane", x.draw(0, BYTES, 100), -13);
        long[] cells = {0, 1, 5, 1, 2, 6, 0, 2};
        for (int i = 0; i < cells.length; i++) {
            x.lay(0, i, cells[i]);
        }
        due("10: the third has two cells", x.draw(0, LONGS, 3), -12);
        due("10: no road was drawn", x.count(2), 0);
        long[] wrong = {-1, 3, 1L << 32, (1L << 32) + 1, Long.MIN_VALUE, Long.MAX_VALUE, 2};
        for (long cell : wrong) {
            x.lay(0, 3, cell);
            due("10: the second is from " + cell, x.draw(0, LONGS, 2), -21);
            due("10: ahead of the third's missing cell", x.draw(0, LONGS, 3), -21);
            due("10: the first alone can be drawn", x.draw(0, LONGS, 1), 1);
            due("10: and undone", x.undo(), 3);
        }
        x.lay(0, 3, 1);
        long[] lengths = {-1, 1001, 1L << 32, (1L << 32) + 5};
        for (long length : lengths) {
            x.lay(0, 5, length);
            due("10: the second is as long as " + length, x.draw(0, LONGS, 2), -21);
            due("10: no road was drawn", x.count(2), 0);
        }
        x.lay(0, 5, 7);
        x.lay(0, 6, 1L << 32);
        due("10: no cell ahead of a cell that is no int", x.draw(0, LONGS, 3), -12);
    }

    private void apart() {
        row(all(0, 0, 0, 0), 4, 3);
        x.road(0, 2, 10);
        due("11: to itself", x.apart(1, 1), 0);
        due("11: to itself, with no roads", x.apart(3, 3), 0);
        due("11: over another", x.apart(0, 2), 7);
        due("11: and back", x.apart(2, 0), 7);
        due("11: not joined", x.apart(0, 3), NONE);
        due("11: no such", x.apart(0, 4), BAD);
        due("11: no such", x.apart(4, 0), BAD);
        due("11: no such", x.apart(-1, -1), BAD);
        x.road(0, 2, 6);
        due("11: a shorter road", x.apart(2, 0), 6);
        x.road(1, 2, 0);
        due("11: over village 0", x.apart(1, 2), 10);
        x.road(1, 2, 3);
        x.road(0, 2, 0);
        due("11: it is gone", x.apart(2, 0), 7);
        int[] none = new int[12];
        row(none, 1000, 1000, 1000, 1000, 1000, 1000, 1000, 1000, 1000, 1000, 1000);
        due("11: the longest", x.apart(0, 11), 11000);
    }

    private void way() {
        row(all(0, 0, 0, 0, 0), 2, 2, 2);
        x.road(0, 2, 4);
        int[] villages = {0, 1, 2, 3};
        for (int i = 0; i < villages.length; i++) {
            due("12: way(0, 3, " + i + ")", x.way(0, 3, i), villages[i]);
        }
        due("12: back, the least each time", x.way(3, 0, 1), 2);
        due("12: back, the least each time", x.way(3, 0, 2), 0);
        due("12: back, beyond", x.way(3, 0, 3), NONE);
        due("12: beyond", x.way(0, 3, 4), NONE);
        due("12: far beyond", x.way(0, 3, Integer.MAX_VALUE), NONE);
        due("12: below 0", x.way(0, 3, -1), BAD);
        due("12: to itself", x.way(2, 2, 0), 2);
        due("12: to itself, beyond", x.way(2, 2, 1), NONE);
        due("12: not joined", x.way(0, 4, 0), NONE);
        due("12: no such", x.way(5, 0, 0), BAD);
        due("12: no such", x.way(0, 5, 0), BAD);
        due("12: no such", x.way(-1, 0, 0), BAD);
        x.road(0, 3, 6);
        due("12: village 1 is less than 3", x.way(0, 3, 1), 1);
        due("12: village 0 is less than 2", x.way(3, 0, 1), 0);
        int[] none = new int[12];
        row(none, 1, 1, 1, 1, 1, 1, 1, 1, 1, 1, 1);
        due("12: the last of all", x.way(0, 11, 11), 11);
        due("12: beyond all", x.way(0, 11, 12), NONE);
    }

    private void allowed() {
        villages(1);
        due("13: no places", x.allowed(0), 1);
        due("13: no such place", x.allowed(1), BAD);
        x.place(0, OVEN, 0);
        x.place(0, BIG, 0);
        x.place(0, OLD, 0);
        x.place(0, WEAK, 0);
        due("13: 1 and 2", x.allowed(3), 1);
        due("13: 1 and 2 and 1", x.allowed(7), 0);
        due("13: 1 and 1 and 1", x.allowed(13), 1);
        due("13: bits of no places", x.allowed(16), BAD);
        due("13: bits of no places", x.allowed(17), BAD);
        due("13: the highest bit", x.allowed(Integer.MIN_VALUE), BAD);
        due("13: all bits", x.allowed(-1), BAD);
        x.place(0, SHRINE, 0);
        due("13: without the shrine", x.allowed(0), 0);
        due("13: with it", x.allowed(16), 1);
        x.place(0, SHRINE, 0);
        due("13: one of two", x.allowed(16), 0);
        due("13: both", x.allowed(48), 1);
        due("13: both and a big one", x.allowed(50), 0);
        x.number(4);
        due("13: now it is", x.allowed(50), 1);
        x.number(0);
        due("13: none is", x.allowed(48), 0);
    }

    private void cost() {
        row(all(5, 0, 7), 3, 4);
        due("14: none is served", x.cost(0), NONE);
        x.loaves(0, 0);
        due("14: the only one is not served", x.cost(0), NONE);
        x.loaves(0, 5);
        x.place(0, OVEN, 100);
        x.place(2, OVEN, 20);
        due("14: cost(1)", x.cost(1), 100 + 7 * 7);
        due("14: cost(2)", x.cost(2), 20 + 5 * 7);
        due("14: cost(3)", x.cost(3), 120);
        x.number(0);
        due("14: not allowed", x.cost(3), 120);
        due("14: bits of no places", x.cost(4), BAD);
        due("14: below 0", x.cost(-1), BAD);
        x.road(0, 1, 0);
        due("14: not joined", x.cost(1), NONE);
        due("14: not joined", x.cost(2), NONE);
        x.loaves(0, 0);
        due("14: without loaves", x.cost(2), 20);
        x.loaves(2, 0);
        due("14: no loaves, no oven", x.cost(0), 0);
    }

    private void costOfKinds() {
        row(all(0, 10), 21);
        int[] due = {1000 + 210, 1000 + 110, 210, 210};
        for (int kind = OVEN; kind <= SHRINE; kind++) {
            int p = x.place(0, kind, 1000);
            due("14: cost of kind " + kind, x.cost(1 << p), due[kind]);
        }
        x.place(0, WEAK, 1000);
        due("14: too far for a weak one", x.cost(16), NONE);
        x.road(0, 1, 20);
        due("14: just within", x.cost(16), 1200);
        due("14: half of it", x.cost(2), 1100);
        x.road(0, 1, 1);
        due("14: half of 1 is 1", x.cost(2), 1010);
        int[] none = new int[12];
        row(none, 1000, 1000, 1000, 1000, 1000, 1000, 1000, 1000, 1000, 1000, 1000);
        for (int v = 0; v < 12; v++) {
            x.loaves(v, 1000);
        }
        x.place(0, OVEN, 100000);
        due("14: the dearest", x.cost(1), 66000000 + 100000);
    }

    private void served() {
        row(all(1, 0, 1, 1), 3, 3);
        x.place(2, OVEN, 0);
        x.place(0, OVEN, 0);
        x.place(0, BIG, 0);
        due("15: the nearer", x.served(3, 0), 1);
        due("15: the nearer", x.served(3, 2), 0);
        due("15: without loaves, the least place", x.served(3, 1), 0);
        due("15: a big one carries less", x.served(7, 1), 2);
        due("15: of like ones the least", x.served(6, 0), 1);
        due("15: none joined", x.served(7, 3), NONE);
        due("15: no ovens", x.served(0, 0), NONE);
        due("15: no such village", x.served(1, 4), BAD);
        due("15: no such village", x.served(1, -1), BAD);
        due("15: bits of no places", x.served(8, 0), BAD);
        due("15: below 0", x.served(-8, 0), BAD);
        x.place(2, WEAK, 0);
        x.reach(3, 2);
        due("15: beyond its reach", x.served(10, 1), 1);
        x.reach(3, 3);
        due("15: a tie goes to the least place", x.served(10, 1), 1);
        due("15: just within its reach", x.served(8, 1), 3);
    }

    private void share() {
        row(all(5, 0, 7, 2), 3, 4, 1);
        x.place(0, OVEN, 0);
        x.place(3, BIG, 0);
        x.place(3, OVEN, 0);
        int[] ofFirst = {1, 5, 0};
        int[] ofBig = {2, 9, 1};
        int[] ofAlone = {3, 14, 8};
        for (int what = 0; what < 3; what++) {
            due("16: share(3, 0, " + what + ")", x.share(3, 0, what), ofFirst[what]);
            due("16: share(3, 1, " + what + ")", x.share(3, 1, what), ofBig[what]);
            due("16: share(1, 0, " + what + ")", x.share(1, 0, what), ofAlone[what]);
        }
        due("16: serves none", x.share(6, 2, 0), 0);
        due("16: serves none", x.share(6, 2, 2), 0);
        x.loaves(3, 1);
        due("16: one loaf", x.share(3, 1, 0), 2);
        due("16: one loaf", x.share(3, 1, 1), 8);
        due("16: village 0 is the farthest", x.share(4, 2, 2), 8);
        due("16: not in it", x.share(3, 2, 0), STATE);
        due("16: not in it, and wrong", x.share(3, 2, 3), BAD);
        due("16: what 3", x.share(3, 0, 3), BAD);
        due("16: what -1", x.share(3, 0, -1), BAD);
        due("16: no such place", x.share(3, 3, 0), BAD);
        due("16: no such place", x.share(3, -1, 0), BAD);
        due("16: bits of no places", x.share(9, 0, 0), BAD);
    }

    private void leastBestMany() {
        row(all(2, 2, 2), 5, 5);
        due("17: none", x.least(), NONE);
        due("18: none", x.best(), NONE);
        due("19: none", x.many(), 0);
        x.place(0, OVEN, 10);
        x.place(1, OVEN, 10);
        x.place(2, OVEN, 10);
        due("17: least", x.least(), 30);
        due("18: best, the least of several", x.best(), 2);
        due("19: many: 2, 3, 6, 7 and 5", x.many(), 5);
        x.number(1);
        due("19: many, first after a change", x.many(), 1);
        due("17: least", x.least(), 30);
        x.number(2);
        x.loaves(0, 9);
        due("18: best, first after a change", x.best(), 1 + 2);
        x.loaves(0, 2);
        x.number(1);
        x.number(0);
        due("17: none allowed that serves", x.least(), NONE);
        due("18: none allowed that serves", x.best(), NONE);
        due("19: none allowed that serves", x.many(), 0);
        x.number(3);
        x.place(0, SHRINE, 5);
        due("17: with the shrine", x.least(), 20);
        due("18: with the shrine, the least of 10, 12", x.best(), 10);
        x.number(0);
        due("17: no shrine allowed", x.least(), NONE);
    }

    private void every() {
        row(all(2, 2, 2), 5, 5);
        x.place(0, OVEN, 10);
        x.place(1, OVEN, 10);
        x.place(2, OVEN, 11);
        due("20: in some", x.every(0), 0);
        due("20: in all", x.every(1), 1);
        due("20: in none", x.every(2), -5);
        due("20: no such", x.every(3), BAD);
        due("20: no such", x.every(-1), BAD);
        x.place(1, OVEN, 10);
        due("20: one of two like ones", x.every(1), 0);
        due("20: the other", x.every(3), 0);
        x.loaves(0, 0);
        x.loaves(2, 0);
        x.place(1, OLD, 10);
        due("20: in none of the one", x.every(0), -5);
        due("20: in none of the one", x.every(1), -5);
        due("20: in the one", x.every(4), 1);
        villages(1);
        x.place(0, OVEN, 5);
        x.place(0, OVEN, 5);
        due("20: the first of two", x.every(0), 0);
        due("20: the last of two", x.every(1), 0);
        x.number(0);
        due("20: there is none", x.every(0), NONE);
        due("20: no such, and none", x.every(2), BAD);
    }

    private void second() {
        row(all(2, 2), 5);
        due("21: none has a cost", x.second(0), NONE);
        x.place(0, OVEN, 1);
        due("21: no other one", x.second(1), NONE);
        due("21: but one that has no cost", x.second(0), 1);
        x.place(1, OVEN, 1);
        x.place(1, OVEN, 10);
        due("21: but the best", x.second(3), 1);
        due("21: the best, but another", x.second(1), 3);
        due("21: the best, but one not allowed", x.second(0), 3);
        due("21: bits of no places", x.second(8), BAD);
        due("21: below 0", x.second(-1), BAD);
        x.number(1);
        due("21: of like ones the least", x.second(2), 1);
        due("21: of like ones the least", x.second(1), 2);
        x.number(2);
        x.place(0, OVEN, 1);
        due("21: of like best ones", x.second(3), 10);
        due("21: of like best ones", x.second(10), 3);
        villages(1);
        x.place(0, OVEN, 7);
        x.place(0, OVEN, 9);
        x.place(0, OVEN, 5);
        x.number(1);
        due("21: costs 7, 9, 5: but the best", x.second(4), 1);
        x.place(0, OVEN, 6);
        due("21: costs 7, 9, 5, 6: but the best", x.second(4), 8);
        x.place(0, OVEN, 6);
        due("21: costs 7, 9, 5, 6, 6: but the best", x.second(4), 8);
        x.place(0, OVEN, 1);
        due("21: costs 7, 9, 5, 6, 6, 1: but the best", x.second(32), 4);
        x.place(0, OVEN, 30);
        due("21: costs 7, 9, 5, 6, 6, 1, 30: but the best", x.second(32), 4);
        villages(1);
        x.place(0, OVEN, 7);
        x.place(0, OVEN, 5);
        x.place(0, OVEN, 9);
        x.number(1);
        due("21: costs 7, 5, 9: but the best", x.second(2), 1);
    }

    private void lose() {
        row(all(2, 2), 5);
        x.place(0, OVEN, 1);
        x.place(1, OVEN, 3);
        due("22: lose(0)", x.lose(0), 13);
        due("22: lose(1)", x.lose(1), 11);
        due("22: no such", x.lose(2), BAD);
        due("22: no such", x.lose(-1), BAD);
        x.place(0, SHRINE, 3);
        due("22: a shrine", x.lose(2), STATE);
        due("22: the shrine stays", x.lose(1), 10);
        x.road(0, 1, 0);
        due("22: none without it", x.lose(1), NONE);
        due("22: another", x.lose(0), 3);
    }

    private void worst() {
        row(all(2, 2), 5);
        x.place(0, SHRINE, 1);
        due("23: all are shrines", x.worst(), NONE);
        x.place(1, OVEN, 20);
        due("23: the one that may be lost", x.worst(), 1);
        x.place(1, OVEN, 1);
        due("23: the greatest loss", x.worst(), 2);
        x.place(1, OVEN, 1);
        due("23: like losses", x.worst(), 1);
        x.road(0, 1, 0);
        due("23: like losses", x.worst(), 1);
        x.loaves(0, 0);
        x.number(0);
        due("23: no least cost", x.worst(), NONE);
        villages(1, 1);
        x.place(0, OVEN, 5);
        x.place(0, OVEN, 90000);
        x.place(1, OVEN, 5);
        due("23: none at all is the greatest", x.worst(), 2);
        x.loaves(1, 0);
        due("23: the first place", x.worst(), 0);
        villages(1, 1);
        x.place(0, OVEN, 5);
        due("23: no least cost from the first", x.worst(), NONE);
    }

    private void farthestNearest() {
        row(all(1, 0, 1, 1), 6, 2, 7);
        due("24: none", x.farthest(), NONE);
        due("25: none", x.nearest(), NONE);
        x.place(0, OVEN, 0);
        x.place(2, OVEN, 50000);
        x.place(3, BIG, 50000);
        due("24: least of all", x.farthest(), 4);
        due("25: whatever it costs", x.nearest(), 5);
        x.number(2);
        due("24: two at most", x.farthest(), 7);
        due("25: two at most", x.nearest(), 3);
        x.loaves(3, 0);
        due("24: of those with loaves", x.farthest(), 0);
        due("25: the least number", x.nearest(), 3);
        x.loaves(0, 0);
        due("25: the least number of several", x.nearest(), 2);
        x.loaves(2, 0);
        due("24: no loaves", x.farthest(), 0);
        due("25: no loaves", x.nearest(), 0);
        x.place(0, SHRINE, 0);
        x.number(0);
        due("24: none allowed", x.farthest(), NONE);
        due("25: none allowed", x.nearest(), NONE);
    }

    private void added() {
        row(all(4, 4, 4), 10, 10);
        x.place(0, OVEN, 5);
        x.place(1, OVEN, 5);
        x.place(2, OVEN, 5);
        due("26: the middle one, then the least", x.added(), 7);
        due("28: three", x.moves(), 3);
        x.number(1);
        due("26: one", x.added(), 2);
        x.number(2);
        due("26: the least of several", x.added(), 3);
        x.place(2, SHRINE, 5);
        due("26: from the shrine on", x.added(), 9);
        x.number(0);
        due("26: the shrine is not allowed", x.added(), STATE);
        due("28: as it was", x.moves(), 1);
        villages(3, 3, 3);
        x.road(1, 2, 9);
        x.place(0, OVEN, 0);
        x.place(1, OVEN, 90000);
        x.number(1);
        due("26: first the villages that are served", x.added(), 2);
        x.number(3);
        due("26: as long as the measure becomes less", x.added(), 3);
        x.place(1, OVEN, 0);
        due("26: then the cost", x.added(), 5);
        due("28: two", x.moves(), 2);
        x.place(2, OVEN, 27);
        due("26: not if it is like", x.added(), 5);
        x.place(2, BIG, 0);
        x.number(2);
        due("26: a big one counts as two", x.added(), 16);
        int[] ones = {1, 1, 1, 1, 1, 1, 1, 1, 1, 1};
        villages(ones);
        for (int v = 0; v < 10; v++) {
            x.place(v, OVEN, 1);
        }
        x.number(20);
        due("26: all ten", x.added(), 1023);
        due("28: ten", x.moves(), 10);
    }

    private void changed() {
        row(all(4, 4, 4), 10, 10);
        x.place(0, OVEN, 5);
        x.place(1, OVEN, 5);
        x.place(2, OVEN, 5);
        x.number(1);
        due("27: to the middle", x.changed(4), 2);
        due("28: one", x.moves(), 1);
        due("27: nothing better", x.changed(2), 2);
        due("28: none", x.moves(), 0);
        due("27: nothing to take out", x.changed(0), 0);
        due("27: not allowed", x.changed(3), STATE);
        due("27: bits of no places", x.changed(8), BAD);
        due("27: below 0", x.changed(-8), BAD);
        x.number(2);
        x.place(1, OVEN, 4);
        due("27: the least out, then in, of several", x.changed(6), 12);
        x.place(0, SHRINE, 0);
        due("27: without the shrine", x.changed(1), STATE);
        due("27: the shrine stays", x.changed(17), 24);
        due("27: not more of them", x.changed(16), 16);
        changedTies();
    }

    private void changedTies() {
        row(all(5, 5, 1, 0), 10, 10, 10);
        x.place(3, OVEN, 7);
        x.place(3, OVEN, 7);
        x.place(0, OVEN, 7);
        x.place(0, OVEN, 7);
        x.number(2);
        due("27: the least out, the least in", x.changed(3), 6);
        x.place(0, BIG, 0);
        due("27: a big one does not fit", x.changed(9), 9);
        x.number(3);
        due("27: now it fits", x.changed(9), 24);
        villages(1, 1, 1);
        x.place(0, OVEN, 0);
        x.place(1, OVEN, 90000);
        x.road(1, 2, 1000);
        due("27: more served goes ahead of the cost", x.changed(1), 2);
        due("27: from there none", x.changed(2), 2);
        x.number(20);
        x.loaves(1, 0);
        x.loaves(2, 0);
        due("27: place 0 comes in", x.changed(2), 1);
        due("27: none is added", x.changed(0), 0);
        due("27: none is taken out", x.changed(3), 3);
    }

    private void moves() {
        row(all(4, 4, 4), 10, 10);
        due("28: none before", x.moves(), 0);
        x.place(0, OVEN, 5);
        x.place(2, OVEN, 5);
        x.added();
        due("28: two added", x.moves(), 2);
        x.changed(4);
        due("28: a refused one does not count", x.moves(), 2);
        x.undo();
        due("28: it is not undone", x.moves(), 2);
        x.changed(1);
        due("28: none changed", x.moves(), 0);
        row(all(9, 0, 0, 9), 1, 50, 1);
        x.place(1, OVEN, 0);
        x.place(2, OVEN, 0);
        x.place(0, OVEN, 0);
        x.place(3, OVEN, 0);
        x.number(2);
        due("28: changed twice", x.changed(3), 12);
        due("28: twice", x.moves(), 2);
    }

    private void price() {
        villages(1, 1);
        due("30: 0 at first", x.priced(0), 0);
        due("29: price(0, 100000000)", x.price(0, 100000000), 1);
        due("30: as told", x.priced(0), 100000000);
        due("30: not the other", x.priced(1), 0);
        due("29: price(0, 100000001)", x.price(0, 100000001), BAD);
        due("29: price(0, -1)", x.price(0, -1), BAD);
        due("29: price(2, 1)", x.price(2, 1), BAD);
        due("29: price(-1, 1)", x.price(-1, 1), BAD);
        due("30: as it was", x.priced(0), 100000000);
        due("29: price(0, 0)", x.price(0, 0), 1);
        due("30: 0", x.priced(0), 0);
        due("30: no such", x.priced(2), 0);
        due("30: no such", x.priced(-1), 0);
        due("30: no such", x.priced(Integer.MAX_VALUE), 0);
    }

    private void gives() {
        row(all(5, 3, 0, 1), 7, 1);
        x.place(0, OVEN, 1000);
        x.place(0, BIG, 0);
        x.place(0, WEAK, 0);
        x.reach(2, 6);
        x.price(1, 21);
        x.price(2, 50);
        x.price(3, 50);
        due("31: just nothing", x.gives(0, 1), 0);
        due("31: a big one", x.gives(1, 1), 9);
        x.price(1, 22);
        due("31: one more", x.gives(0, 1), 1);
        x.price(1, 3);
        due("31: not below 0", x.gives(0, 1), 0);
        x.price(1, 100);
        due("31: beyond its reach", x.gives(2, 1), 0);
        due("31: without loaves", x.gives(0, 2), 0);
        due("31: not joined", x.gives(0, 3), 0);
        due("31: no price", x.gives(0, 0), 0);
        due("31: no such place", x.gives(3, 0), BAD);
        due("31: no such place", x.gives(-1, 0), BAD);
        due("31: no such village", x.gives(0, 4), BAD);
        due("31: no such village", x.gives(0, -1), BAD);
    }

    private void worth() {
        row(all(5, 3, 0), 7, 1);
        x.price(0, 10);
        x.price(1, 30);
        x.price(2, 1000);
        int[] worths = {0, 6, 19, 19, 7};
        int[] builds = {20, 22, 50, 50, 12};
        for (int kind = OVEN; kind <= WEAK; kind++) {
            int p = x.place(0, kind, builds[kind]);
            due("32: worth of kind " + kind, x.worth(p), worths[kind]);
        }
        due("32: no such", x.worth(5), 0);
        due("32: no such", x.worth(-1), 0);
        x.price(0, 100000000);
        x.price(1, 100000000);
        due("32: above an int", x.worth(0), 199999959);
        x.reach(4, 6);
        due("32: beyond its reach", x.worth(4), 99999988);
    }

    private void bound() {
        row(all(5, 3, 0), 7, 1);
        x.price(0, 10);
        x.price(1, 30);
        x.price(2, 1000);
        due("33: no places", x.bound(), 40);
        x.place(0, OVEN, 4);
        x.place(1, OVEN, 4);
        x.place(1, OVEN, 90000);
        due("33: both", x.bound(), 40 - (10 + 9 - 4) - (30 - 4));
        x.number(1);
        due("33: the greater one", x.bound(), 40 - 26);
        x.place(2, SHRINE, 7);
        due("33: the shrine alone is allowed", x.bound(), 40 - 27);
        x.number(0);
        due("33: none is allowed", x.bound(), NONE);
        int[] none = new int[12];
        row(none);
        for (int v = 0; v < 12; v++) {
            x.loaves(v, 1);
            x.price(v, 100000000);
        }
        due("33: the sum of all", x.bound(), 1200000000);
        for (int v = 0; v < 11; v++) {
            x.road(v, v + 1, 1);
        }
        x.number(20);
        for (int p = 0; p < 10; p++) {
            x.place(0, OLD, 0);
        }
        due("33: far below 0", x.bound(), 1200000000L - 10 * (1200000000L - 66));
    }

    private void climb() {
        row(all(5, 3, 0), 7, 1);
        x.place(0, OVEN, 4);
        x.place(1, OVEN, 4);
        due("34: n -1", x.climb(-1, 1), BAD);
        due("34: n 101", x.climb(101, 1), BAD);
        due("34: s 0", x.climb(1, 0), BAD);
        due("34: s 100001", x.climb(1, 100001), BAD);
        due("34: never", x.climb(0, 1), 0);
        due("30: as it was", x.priced(0), 0);
        due("34: once, each one more", x.climb(1, 5), 2);
        due("30: 5", x.priced(0), 5);
        due("30: 5", x.priced(1), 5);
        due("30: none without loaves", x.priced(2), 0);
        due("34: each has one that gives", x.climb(10, 5), 0);
        x.price(1, 30);
        x.price(0, 5);
        due("34: two give for 1, until but one does", x.climb(10, 4), 3);
        due("30: less", x.priced(1), 18);
        due("30: as it was", x.priced(0), 5);
        x.number(0);
        due("34: no ovens", x.climb(2, 7), 4);
        due("30: two times 7 more", x.priced(0), 19);
        x.place(0, SHRINE, 0);
        due("34: none allowed", x.climb(1, 1), STATE);
        due("34: none allowed, and wrong", x.climb(101, 1), BAD);
        due("30: as it was", x.priced(0), 19);
    }

    private void climbAtTheEdges() {
        villages(5, 0);
        x.price(0, 99999999);
        due("34: to the most, and no farther", x.climb(100, 5), 1);
        due("30: the most", x.priced(0), 100000000);
        x.place(0, OVEN, 0);
        x.place(0, OVEN, 0);
        x.price(0, 7);
        due("34: to the least", x.climb(1, 100000), 1);
        due("30: 0", x.priced(0), 0);
        due("34: up and down", x.climb(100, 100000), 100);
        due("30: 0", x.priced(0), 0);
        x.number(1);
        due("34: of like choices the least", x.climb(1, 3), 1);
        due("34: one gives", x.climb(100, 3), 0);
        row(all(1, 1), 5);
        x.place(1, OVEN, 0);
        x.place(0, OVEN, 0);
        x.number(1);
        x.price(0, 3);
        x.price(1, 3);
        due("34: of like choices place 0 alone", x.climb(1, 1), 1);
        due("30: its village stays", x.priced(1), 3);
        due("30: the other is more", x.priced(0), 4);
    }

    private void highest() {
        row(all(5, 3), 7);
        x.place(0, OVEN, 4);
        x.place(1, OVEN, 4);
        due("35: 0 before", x.highest(), 0);
        x.price(0, 5);
        x.price(1, 30);
        due("33: ahead", x.bound(), -1);
        x.climb(0, 1);
        due("35: of no times the bound ahead", x.highest(), -1);
        x.climb(1, 4);
        due("35: behind the first time", x.highest(), x.bound());
        x.climb(101, 4);
        due("35: a refused one changes nothing", x.highest(), x.bound());
        x.price(0, 0);
        x.price(1, 4);
        due("33: ahead", x.bound(), 4);
        x.climb(1, 100000);
        due("33: behind", x.bound() < 4 ? 1 : 0, 1);
        due("35: the bound ahead was greater", x.highest(), 4);
        x.price(0, 5);
        x.price(1, 30);
        x.number(1);
        x.climb(3, 2);
        due("35: behind the third time", x.highest(), 15);
        x.price(0, 0);
        x.price(1, 2);
        x.climb(0, 1);
        due("35: the latest climb's alone", x.highest(), 2);
        x.number(0);
        x.place(0, SHRINE, 0);
        due("34: none allowed", x.climb(1, 1), STATE);
        due("35: a refused one changes nothing", x.highest(), 2);
    }

    private void undo() {
        villages(7);
        x.price(0, 9);
        due("36: the village goes", x.undo(), 0);
        due("36: none", x.undo(), NONE);
        due("36: no village", x.count(0), 0);
        x.village(3);
        due("36: its price went too", x.priced(0), 0);
        x.village(4);
        x.road(0, 1, 5);
        x.road(0, 1, 6);
        x.place(0, WEAK, 5);
        x.reach(0, 4);
        x.loaves(1, 8);
        x.number(9);
        x.price(0, 77);
        x.map(0, BYTES, 3);
        due("36: number", x.undo(), 7);
        due("36: 3 again", x.count(3), 3);
        due("36: loaves", x.undo(), 6);
        due("36: 4 again", x.count(4), 7);
        due("36: reach", x.undo(), 5);
        due("36: 20 again", x.served(1, 1), 0);
        due("36: place", x.undo(), 4);
        due("36: none", x.count(1), 0);
        due("36: bits of no places", x.allowed(1), BAD);
        due("36: the road's length", x.undo(), 3);
        due("36: 5 again", x.apart(0, 1), 5);
        due("36: the road", x.undo(), 2);
        due("36: none", x.apart(0, 1), NONE);
        due("36: the second village", x.undo(), 1);
        due("36: one", x.count(0), 1);
        due("36: prices stay", x.priced(0), 77);
        due("36: maps stay", x.lay(0, 2, 1), 1);
        x.village(1);
        due("36: no road to the new one", x.apart(0, 1), NONE);
        x.place(0, WEAK, 5);
        x.reach(0, 1);
        x.undo();
        x.undo();
        x.place(0, WEAK, 5);
        due("36: a new place has its first reach", x.reach(0, 2), 20);
    }

    private void undoOfDraw() {
        villages(1, 1, 1);
        x.road(0, 1, 5);
        x.map(0, INTS, 9);
        int[] cells = {0, 1, 7, 1, 2, 8, 1, 0, 9};
        for (int i = 0; i < cells.length; i++) {
            x.lay(0, i, cells[i]);
        }
        due("36: draw", x.draw(0, INTS, 3), 3);
        due("36: all of its roads", x.undo(), 4);
        due("36: as it was", x.apart(0, 1), 5);
        due("36: as it was", x.count(2), 1);
        x.draw(0, INTS, 0);
        x.lay(0, 2, 5);
        x.draw(0, INTS, 1);
        x.lay(0, 2, 1001);
        x.draw(0, INTS, 1);
        due("36: draws that changed nothing do not count", x.undo(), 3);
        due("36: the road", x.count(2), 0);
    }

    private void undoKeepsTen() {
        villages(1);
        for (int n = 2; n <= 15; n++) {
            x.loaves(0, n);
            x.loaves(0, n);
        }
        x.loaves(0, -1);
        x.number(3);
        for (int more = 9; more >= 0; more--) {
            due("36: more", x.undo(), more);
        }
        due("36: no more", x.undo(), NONE);
        due("36: the latest ten", x.count(4), 5);
        due("36: same loaves", x.loaves(0, 5), 5);
        due("36: not a change", x.undo(), NONE);
        for (int round = 0; round < 30; round++) {
            x.loaves(0, 100 + round);
            x.number(round % 2);
            due("36: number", x.undo(), Math.min(round + 1, 9));
            due("36: as it was", x.count(3), 3);
        }
        due("36: one of ten", x.undo(), 8);
        due("36: as it was", x.count(4), 128);
    }

    private void count() {
        row(all(5, 0, 7), 3, 4);
        x.place(0, SHRINE, 1);
        x.place(1, SHRINE, 1);
        x.place(1, OLD, 1);
        x.place(1, WEAK, 1);
        x.number(7);
        int[] counts = {3, 4, 2, 7, 12, 2};
        for (int what = 0; what < counts.length; what++) {
            due("37: count(" + what + ")", x.count(what), counts[what]);
        }
        x.road(0, 2, 1);
        due("37: the shortest road counts too", x.count(2), 3);
        due("37: count(6)", x.count(6), BAD);
        for (int far : FAR_OFF) {
            due("37: count(" + far + ")", x.count(far), BAD);
        }
    }

    /** Twelve villages in a row, ten places: the last of each is as good as any other. */
    private void fullValley() {
        int[] ones = {1, 1, 1, 1, 1, 1, 1, 1, 1, 1, 1, 1};
        row(ones, 1, 1, 1, 1, 1, 1, 1, 1, 1, 1, 1);
        for (int p = 0; p < 10; p++) {
            x.place(p + 2, OVEN, 100);
        }
        x.number(1);
        due("15: the last place, the last village", x.served(512, 11), 9);
        due("16: all villages", x.share(512, 9, 0), 12);
        due("16: all loaves", x.share(512, 9, 1), 12);
        due("16: the farthest", x.share(512, 9, 2), 11);
        due("17: least", x.least(), 100 + 36);
        due("18: best: place 3 at village 5", x.best(), 8);
        due("19: or place 4 at village 6", x.many(), 2);
        due("24: farthest", x.farthest(), 6);
        due("25: nearest", x.nearest(), 8);
        due("26: added", x.added(), 8);
        due("27: changed", x.changed(512), 8);
        due("34: no oven is worth it, all prices go up", x.climb(1, 2), 12);
        due("30: the last price", x.priced(11), 2);
        due("31: for its own village", x.gives(9, 11), 2);
        due("32: not worth its build", x.worth(9), 0);
        due("33: so no oven", x.bound(), 24);
        due("22: the last place lost", x.lose(9), 136);
        due("23: like losses", x.worst(), 0);
        due("12: the way through all", x.way(11, 0, 11), 0);
        due("37: all roads", x.count(2), 11);
    }
}
