/** The edges of promises 8 to 10: maps, and roads drawn from them. */
public final class EdgesOfMapsTest extends Edges {
    private static final String[] LANES = {"BYTES", "INTS", "LONGS"};

    public static void main(String[] args) throws ReflectiveOperationException {
        new EdgesOfMapsTest().runAll();
    }

    private void lay(int k, long... cells) {
        for (int i = 0; i < cells.length; i++) {
            make("lay " + k + " " + i + " " + cells[i]);
        }
    }

    void promise8NewRow() {
        at("Promise 8: A MAP is a new row of CELLS 0: 1.");
        villages(1, 1);
        for (String lane : LANES) {
            is(1, "map 3 " + lane + " 60", "lay 3 1 1", "lay 3 2 5", "lay 3 58 1", "lay 3 59 5");
            is(1, "draw 3 " + lane + " 1");
            is(5, "apart 0 1");
            is(1, "map 3 " + lane + " 60");
            is(ROAD_REFUSED, "draw 3 " + lane + " 1");
            is(1, "lay 3 1 1", "draw 3 " + lane + " 1");
            is(0, "count 2");
            make("undo");
            is(1, "map 3 " + lane + " 0");
            is(INDEX, "lay 3 0 0", "draw 3 " + lane + " 1");
            is(0, "draw 3 " + lane + " 0");
        }
    }

    /** The last road of a full row reads 0, 0, 0 again once the row is new. */
    void promise8LastCells() {
        at("Promise 8: A MAP is a new row of CELLS 0");
        villages(1, 1);
        twentyRoads("INTS");
        is(20, "draw 0 INTS 20", "apart 0 1");
        make("map 0 INTS 60");
        for (int r = 0; r < 20; r++) {
            make("lay 0 " + (3 * r + 1) + " 1");
        }
        is(20, "draw 0 INTS 20");
        is(0, "count 2");
    }

    void promise8FirstCell() {
        at("Promise 8: A MAP is a new row of CELLS 0");
        villages(1, 1, 1);
        for (String lane : LANES) {
            make("map 0 " + lane + " 3");
            lay(0, 2, 1, 5);
            make("map 0 " + lane + " 3", "lay 0 1 1", "lay 0 2 6");
            is(1, "draw 0 " + lane + " 1", "count 2");
            is(6, "road 0 1 0");
        }
    }

    void promise8MapsAreApart() {
        at("Promise 8: A MAP is a new row of CELLS 0");
        for (int k = 0; k < 4; k++) {
            is(1, "map " + k + " INTS " + (3 + k));
        }
        for (int k = 0; k < 4; k++) {
            is(1, "lay " + k + " " + (2 + k) + " 1");
            is(INDEX, "lay " + k + " " + (3 + k) + " 1");
        }
    }

    void promise8Bad() {
        at("Promise 8: BAD: also n above 60");
        for (String lane : LANES) {
            is(BAD, each("map 0 " + lane + " %", 61, 62, MAX));
            is(NULL, "lay 0 0 0");
        }
        is(BAD, each("map % INTS 1", -1, 4, MIN, MAX));
        is(BAD, each("map 0 % 1", -1, 3, MIN, MAX));
        make("map 0 INTS 60");
        is(BAD, "map 0 INTS 61", "map 0 BYTES 61", "map 0 3 3", "map 4 INTS 3");
        is(1, "lay 0 59 1");
        is(0, "draw 0 INTS 0");
    }

    void promise8Size() {
        at("Promise 8: -10 - 4.");
        for (String lane : LANES) {
            is(SIZE, each("map 0 " + lane + " %", -1, -2, -61, MIN));
        }
        is(NULL, "lay 0 0 0");
        is(1, "map 0 INTS 0");
        is(SIZE, "map 0 INTS -1", "map 3 BYTES -1");
        is(INDEX, "lay 0 0 0");
        is(NULL, "lay 3 0 0");
        is(BAD, "map 4 INTS -1", "map -1 INTS -1", "map 0 3 -1", "map 0 -1 -1");
    }

    void promise9Bytes() {
        at("Promise 9: CELL i of a MAP becomes v (its lowest bits): 1.");
        villages(1, 1);
        make("map 0 BYTES 3");
        lay(0, 0, 1, 127);
        is(1, "draw 0 BYTES 1");
        is(127, "apart 0 1");
        for (long v : new long[] {128, 255, -1, -128, 384, Long.MAX_VALUE}) {
            is(1, "lay 0 2 " + v);
            is(ROAD_REFUSED, "draw 0 BYTES 1");
        }
        is(127, "apart 0 1");
        int[] left = {0, 0, 0, 1, 127, 5};
        long[] laid = {256, -256, Long.MIN_VALUE, -255, 0x1234567f, (1L << 32) + 5};
        for (int i = 0; i < laid.length; i++) {
            is(1, "lay 0 2 " + laid[i], "draw 0 BYTES 1");
            is(left[i], "road 0 1 500");
        }
        make("lay 0 2 9", "lay 0 0 256", "lay 0 1 -255");
        is(1, "draw 0 BYTES 1");
        is(9, "apart 0 1");
    }

    void promise9Ints() {
        at("Promise 9: CELL i of a MAP becomes v (its lowest bits)");
        villages(1, 1);
        make("map 0 INTS 3");
        lay(0, 0, 1, 1000);
        is(1, "draw 0 INTS 1");
        is(1000, "apart 0 1");
        for (long v : new long[] {1001, MAX, 1L << 31, -1, MIN, (1L << 32) - 1, Long.MAX_VALUE}) {
            is(1, "lay 0 2 " + v);
            is(ROAD_REFUSED, "draw 0 INTS 1");
        }
        int[] left = {0, 0, 0, 256, 7};
        long[] laid = {1L << 32, Long.MIN_VALUE, -(1L << 32), 256, (5L << 32) + 7};
        for (int i = 0; i < laid.length; i++) {
            is(1, "lay 0 2 " + laid[i], "draw 0 INTS 1");
            is(left[i], "road 0 1 500");
        }
        make("lay 0 2 9", "lay 0 0 4294967296", "lay 0 1 4294967297");
        is(1, "draw 0 INTS 1");
        is(9, "apart 0 1");
    }

    void promise9Longs() {
        at("Promise 9: CELL i of a MAP becomes v (its lowest bits)");
        villages(1, 1);
        make("map 0 LONGS 3");
        lay(0, 0, 1, 1000);
        is(1, "draw 0 LONGS 1");
        for (long v : new long[] {1001, 1L << 31, 1L << 32, (1L << 32) + 7, (1L << 40) + 1, -1, Long.MIN_VALUE}) {
            is(1, "lay 0 2 " + v);
            is(ROAD_REFUSED, "draw 0 LONGS 1");
        }
        is(1000, "apart 0 1");
        is(1, "lay 0 2 256", "draw 0 LONGS 1");
        is(256, "apart 0 1");
    }

    void promise9Bad() {
        at("Promise 9: BAD");
        is(BAD, each("lay % 0 0", -1, 4, MIN, MAX));
        is(BAD, "lay 4 -1 0");
        is(1, "map 0 BYTES 1", "map 3 BYTES 1", "lay 0 0 0", "lay 3 0 0");
        is(BAD, each("lay % 0 0", -1, 4, MIN, MAX));
    }

    void promise9Null() {
        at("Promise 9: -10 less the FAULT: NULL, INDEX.");
        for (int k = 0; k < 4; k++) {
            is(NULL, each("lay " + k + " % 1", 0, 59, -1, 60, MIN, MAX));
        }
        make("map 1 INTS 1");
        is(NULL, "lay 0 0 0", "lay 2 0 0", "lay 3 0 0");
    }

    void promise9Index() {
        at("Promise 9: -10 less the FAULT: NULL, INDEX.");
        for (String lane : LANES) {
            make("map 0 " + lane + " 0");
            is(INDEX, each("lay 0 % 1", 0, -1, MIN, MAX));
            make("map 0 " + lane + " 1");
            is(1, "lay 0 0 1");
            is(INDEX, each("lay 0 % 1", 1, -1, MIN, MAX));
            make("map 0 " + lane + " 60");
            is(1, "lay 0 59 1");
            is(INDEX, each("lay 0 % 1", 60, -1, MIN, MAX));
        }
    }

    void promise10HowMany() {
        at("Promise 10: n (0 and more) ROADS are drawn from a MAP taken as of a lane, three CELLS each as they stand");
        for (String lane : LANES) {
            again();
            villages(1, 1);
            twentyRoads(lane);
            String draw = "draw 0 " + lane + " ";
            is(0, draw + 0, "count 2");
            is(1, draw + 1, "apart 0 1");
            is(19, draw + 19, "apart 0 1");
            is(20, draw + 20, "apart 0 1");
            is(BAD, draw + -1, draw + MIN);
            is(INDEX, draw + 21, draw + MAX);
        }
    }

    /** Map 0 is full of roads between villages 0 and 1, of the lengths 1 to 20. */
    private void twentyRoads(String lane) {
        make("map 0 " + lane + " 60");
        for (int r = 0; r < 20; r++) {
            make("lay 0 " + (3 * r + 1) + " 1", "lay 0 " + (3 * r + 2) + " " + (r + 1));
        }
    }

    /** Three times these numbers wraps around to below 0, to 1 and to 2. */
    void promise10WrapAround() {
        at("Promise 10: n (0 and more) ROADS are drawn");
        villages(1, 1);
        twentyRoads("INTS");
        is(INDEX, each("draw 0 INTS %", 715827883, 1431655766, 1431655765, 1431655786, MAX));
        is(0, "count 2");
    }

    void promise10Cells() {
        at("Promise 10: three CELLS each as they stand: a, b, LENGTH");
        villages(1, 1, 1);
        for (String lane : LANES) {
            make("map 0 " + lane + " 0");
            is(0, "draw 0 " + lane + " 0");
            is(INDEX, "draw 0 " + lane + " 1");
            make("map 0 " + lane + " 2");
            is(INDEX, "draw 0 " + lane + " 1");
            make("map 0 " + lane + " 3", "lay 0 1 1", "lay 0 2 7");
            is(1, "draw 0 " + lane + " 1");
            is(INDEX, "draw 0 " + lane + " 2");
            make("undo", "map 0 " + lane + " 5");
            lay(0, 0, 1, 7, 1, 2);
            is(INDEX, "draw 0 " + lane + " 2");
            is(0, "count 2");
            make("map 0 " + lane + " 6");
            lay(0, 0, 1, 7, 1, 2, 9);
            is(2, "draw 0 " + lane + " 2");
            is(16, "apart 0 2");
            make("undo");
        }
    }

    void promise10AsRoadDoes() {
        at("Promise 10: as road() does: n.");
        villages(1, 1, 1);
        make("map 0 INTS 9");
        lay(0, 0, 1, 1000, 1, 2, 1, 2, 1, 0);
        is(2, "draw 0 INTS 2");
        is(1001, "apart 0 2");
        is(3, "draw 0 INTS 3");
        is(1, "count 2");
        is(NONE, "apart 1 2");
        again();
        twelve(1, 1);
        make("map 0 BYTES 3");
        lay(0, 11, 0, 1);
        is(1, "draw 0 BYTES 1", "apart 0 11");
        is(12, "count 2");
    }

    void promise10Bad() {
        at("Promise 10: BAD: k, lane, n.");
        is(BAD, each("draw % INTS 0", -1, 4, MIN, MAX));
        is(BAD, each("draw 0 % 0", -1, 3, MIN, MAX));
        is(BAD, each("draw 0 INTS %", -1, -2, MIN));
        make("map 0 INTS 3", "map 3 LONGS 3");
        is(0, "draw 0 INTS 0", "draw 3 LONGS 0");
        is(BAD, each("draw % INTS 0", -1, 4, MIN, MAX));
        is(BAD, each("draw 0 % 0", -1, 3, MIN, MAX));
        is(BAD, each("draw 0 INTS %", -1, -2, MIN));
        is(BAD, "draw 0 BYTES -1", "draw 1 INTS -1");
    }

    void promise10NullAndCast() {
        at("Promise 10: NULL, CAST ahead of all.");
        is(NULL, "draw 0 INTS 0", "draw 0 INTS 1", "draw 0 INTS " + MAX, "draw 3 LONGS 0");
        String[][] others = {{"INTS", "LONGS"}, {"BYTES", "LONGS"}, {"BYTES", "INTS"}};
        for (int lane = 0; lane < 3; lane++) {
            make("map 0 " + LANES[lane] + " 3");
            for (String other : others[lane]) {
                is(CAST, each("draw 0 " + other + " %", 0, 1, 2, MAX));
            }
            is(0, "draw 0 " + LANES[lane] + " 0");
            is(ROAD_REFUSED, "draw 0 " + LANES[lane] + " 1");
        }
    }

    void promise10RoadRefused() {
        at("Promise 10: -20 and what road() refused");
        make("map 0 INTS 3");
        is(ROAD_REFUSED, "draw 0 INTS 1");
        villages(1, 1);
        is(ROAD_REFUSED, "draw 0 INTS 1");
        lay(0, 0, 1, 1000);
        refusedWith(0, "INTS", new long[] {-1, 2, 1, MIN, MAX}, 0);
        refusedWith(1, "INTS", new long[] {-1, 2, 0, MIN, MAX}, 1);
        refusedWith(2, "INTS", new long[] {-1, 1001, MIN, MAX}, 1000);
        is(1, "draw 0 INTS 1");
        is(1000, "apart 0 1");
        is(1, "lay 0 2 0", "draw 0 INTS 1");
        is(0, "count 2");
    }

    /** With each of these in cell i the one road is refused; then the cell is put right again. */
    private void refusedWith(int i, String lane, long[] wrong, long right) {
        for (long v : wrong) {
            make("lay 0 " + i + " " + v);
            is(ROAD_REFUSED, "draw 0 " + lane + " 1");
        }
        make("lay 0 " + i + " " + right);
    }

    void promise10NoInt() {
        at("Promise 10: (a CELL that is no int: BAD)");
        villages(1, 1);
        make("map 0 LONGS 3");
        lay(0, 0, 1, 5);
        long[] beyond = {1L << 31, -(1L << 31) - 1, 1L << 32, Long.MIN_VALUE, Long.MAX_VALUE, -(1L << 32)};
        refusedWith(0, "LONGS", beyond, 0);
        refusedWith(1, "LONGS", new long[] {(1L << 32) + 1, 1L << 31, Long.MIN_VALUE + 1, 1 - (1L << 32)}, 1);
        refusedWith(2, "LONGS", beyond, 5);
        refusedWith(2, "LONGS", new long[] {(1L << 32) + 5, (1L << 63) + 5, (1L << 40) + 1000}, 5);
        is(1, "draw 0 LONGS 1");
        is(5, "apart 0 1");
    }

    void promise10FirstMet() {
        at("Promise 10: the first met; then no ROAD was drawn.");
        villages(1, 1, 1);
        make("road 0 1 3", "map 0 LONGS 8");
        lay(0, 0, 1, 5, 1, 2, 6, 0, 2);
        is(INDEX, "draw 0 LONGS 3", "draw 0 LONGS 4");
        is(3, "apart 0 1");
        is(1, "count 2");
        make("lay 0 3 3");
        is(ROAD_REFUSED, "draw 0 LONGS 2", "draw 0 LONGS 3", "draw 0 LONGS " + MAX);
        make("lay 0 3 4294967297");
        is(ROAD_REFUSED, "draw 0 LONGS 2", "draw 0 LONGS 3");
        is(3, "apart 0 1");
        make("lay 0 3 1", "lay 0 6 3");
        is(INDEX, "draw 0 LONGS 3");
        is(3, "apart 0 1");
        is(2, "draw 0 LONGS 2");
        is(11, "apart 0 2");
    }
}
