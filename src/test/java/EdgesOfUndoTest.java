/** The edges of promises 36 and 37, and the last of the 512 calls. */
public final class EdgesOfUndoTest extends Edges {
    public static void main(String[] args) throws ReflectiveOperationException {
        new EdgesOfUndoTest().runAll();
    }

    private void undoAll(int more) {
        for (int left = more; left >= 0; left--) {
            is(left, "undo");
        }
        is(NONE, "undo");
    }

    void promise36Ten() {
        at("Promise 36: how many more can be (of the latest 10 such calls that changed something)");
        for (int n = 0; n < 9; n++) {
            make("village " + n);
        }
        undoAll(8);
        is(0, "count 0");
        for (int n = 0; n < 10; n++) {
            make("village " + n);
        }
        undoAll(9);
        is(0, "count 0");
        for (int n = 0; n < 11; n++) {
            make("village " + n);
        }
        undoAll(9);
        is(1, "count 0");
        for (int n = 1; n < 12; n++) {
            make("village " + n);
        }
        undoAll(9);
        is(2, "count 0");
    }

    void promise36TheRingGoesRound() {
        at("Promise 36: (of the latest 10 such calls that changed something)");
        make("village 0");
        for (int n = 1; n <= 40; n++) {
            make("loaves 0 " + n);
        }
        undoAll(9);
        is(30, "count 4");
        for (int n = 31; n <= 37; n++) {
            make("loaves 0 " + n);
        }
        is(6, "undo");
        is(5, "undo");
        is(35, "count 4");
        for (int n = 136; n <= 139; n++) {
            make("loaves 0 " + n);
        }
        is(8, "undo");
        make("loaves 0 1", "loaves 0 2", "loaves 0 3");
        undoAll(9);
        is(31, "count 4");
    }

    void promise36None() {
        at("Promise 36: NONE.");
        is(NONE, "undo", "undo");
        make("village 5");
        is(0, "undo");
        is(NONE, "undo", "undo");
        is(0, "count 0");
    }

    /** Each kind of change alone, undone from the one state back to the other. */
    void promise36EachIsAsItWas() {
        at("Promise 36: The latest VILLAGE, PLACE, ROAD, LOAVES, REACH, NUMBER that came, or was changed, is as it was");
        make("village 1000", "village 0", "road 0 1 1000", "road 0 1 1", "road 0 1 0", "place 0 WEAK 100000");
        make("reach 0 0", "loaves 0 0", "number 0", "number 20");
        is(9, "undo");
        is(0, "count 3");
        is(8, "undo");
        is(3, "count 3");
        is(7, "undo");
        is(1000, "count 4");
        is(6, "undo");
        is(20, "reach 0 20");
        is(5, "undo");
        is(0, "count 1", "count 2");
        is(4, "undo");
        is(1, "apart 0 1");
        is(3, "undo");
        is(1000, "apart 0 1");
        is(2, "undo");
        is(NONE, "apart 0 1");
        is(1, "undo");
        is(1, "count 0");
        is(0, "undo");
        is(NONE, "undo");
        is(0, "count 0", "count 4");
    }

    void promise36FullValley() {
        at("Promise 36: The latest VILLAGE, PLACE");
        twelve(1, 1);
        tenPlaces(11, "SHRINE", 0);
        is(FULL, "village 1", "place 0 OVEN 0");
        undoAll(9);
        is(0, "count 1", "count 5");
        is(11, "count 2", "apart 0 11");
        is(BAD, "allowed 1", "lose 0", "reach 0 0");
        again();
        twelve(1, 0);
        is(FULL, "village 1");
        is(9, "undo");
        is(11, "count 0", "village 7");
        is(FULL, "village 1");
        is(18, "count 4");
    }

    void promise36ChangedNothing() {
        at("Promise 36: such calls that changed something");
        villages(0, 1000);
        make("road 0 1 5", "place 0 WEAK 0", "map 0 INTS 3", "lay 0 1 1", "lay 0 2 5");
        make("loaves 0 0", "loaves 1 1000", "road 0 1 5", "road 1 0 5", "reach 0 20", "number 3");
        make("draw 0 INTS 0", "draw 0 INTS 1", "price 0 5", "climb 1 1", "added", "changed 0", "least");
        is(3, "undo");
        is(0, "count 1");
        make("road 0 1 5");
        is(2, "undo");
        is(0, "count 2");
        make("road 0 1 0", "draw 0 INTS 0");
        is(1, "undo");
        is(0, "undo");
        make("number 3");
        is(NONE, "undo");
    }

    /** All ten are kept already: a call that changes nothing must not cost the oldest of them. */
    void promise36ChangedNothingBehindTen() {
        at("Promise 36: (of the latest 10 such calls that changed something)");
        make("village 0");
        for (int n = 1; n <= 10; n++) {
            make("loaves 0 " + n);
        }
        make("loaves 0 10", "number 3");
        is(BAD, "loaves 0 1001", "village -1", "number 21");
        undoAll(9);
        is(0, "count 4");
        is(1, "count 0");
    }

    void promise36Draw() {
        at("Promise 36: (draw(): all of its ROADS)");
        twelve(1, 0);
        make("map 0 BYTES 60");
        for (int r = 0; r < 11; r++) {
            make("lay 0 " + (3 * r) + " " + r, "lay 0 " + (3 * r + 1) + " " + (r + 1), "lay 0 " + (3 * r + 2) + " 1");
        }
        for (int r = 11; r < 20; r++) {
            make("lay 0 " + (3 * r) + " 11", "lay 0 " + (3 * r + 1) + " " + (r - 11), "lay 0 " + (3 * r + 2) + " 127");
        }
        make("road 0 1 1000");
        is(20, "draw 0 BYTES 20", "count 2");
        is(9, "undo");
        is(1, "count 2");
        is(1000, "apart 0 1");
        is(8, "undo");
        is(0, "count 2");
        is(1, "draw 0 BYTES 1", "count 2");
        is(8, "undo");
        is(0, "count 2");
        is(INDEX, "draw 0 BYTES 21");
        is(7, "undo");
    }

    /** One of its roads is as it was, the other is not: the call changed something. */
    void promise36DrawInPart() {
        at("Promise 36: (draw(): all of its ROADS)");
        villages(1, 1, 1);
        make("road 0 1 5", "map 0 INTS 6", "lay 0 1 1", "lay 0 2 5", "lay 0 3 1", "lay 0 4 2", "lay 0 5 6");
        is(1, "draw 0 INTS 1");
        is(2, "draw 0 INTS 2", "draw 0 INTS 2", "count 2");
        is(4, "undo");
        is(1, "count 2");
        is(3, "undo");
        is(0, "count 2");
    }

    void promise36PricesAndMapsStay() {
        at("Promise 36: (PRICES, MAPS stay; of a VILLAGE that goes the PRICE too.)");
        villages(1, 1);
        make("price 0 100000000", "price 1 7", "map 3 LONGS 60");
        is(1, "undo");
        is(100000000, "priced 0");
        is(0, "priced 1");
        is(1, "village 1");
        is(0, "priced 1");
        is(1, "undo");
        is(0, "undo");
        is(0, "priced 0");
        is(NONE, "undo");
        is(1, "lay 3 59 1");
        is(0, "village 1", "priced 0");
        again();
        twelve(1, 1);
        make("price 11 9", "price 10 8", "road 0 1 2");
        is(9, "undo", "priced 11");
        for (int left = 8; left >= 0; left--) {
            is(left, "undo");
        }
        is(9, "priced 11");
        is(8, "priced 10");
        again();
        twelve(1, 0);
        make("price 11 9", "price 10 8");
        is(9, "undo");
        is(0, "priced 11");
        is(8, "priced 10");
        is(11, "village 1");
        is(0, "priced 11");
    }

    /** What the dearest calls found is found anew behind an undo. */
    void promise36AllIsAsItWas() {
        at("Promise 36: is as it was");
        villages(1, 1);
        make("road 0 1 10", "place 0 OVEN 0", "place 1 OVEN 0");
        is(0, "least", "farthest");
        is(3, "best", "nearest", "added");
        is(4, "undo");
        is(10, "least", "farthest");
        is(1, "best", "nearest", "added", "many");
        is(3, "undo");
        is(NONE, "least", "best", "farthest", "nearest");
        is(0, "many", "added");
    }

    void promise37Each() {
        at("Promise 37: How many: 0 VILLAGES, 1 PLACES, 2 ROADS, 3 THE NUMBER, 4 LOAVES of all, 5 SHRINES.");
        is(0, "count 0", "count 1", "count 2", "count 4", "count 5");
        is(3, "count 3");
        twelve(1000, 1000);
        make("number 20", "road 0 11 1");
        tenPlaces(0, "SHRINE", 100000);
        is(12, "count 0", "count 2");
        is(10, "count 1", "count 5");
        is(20, "count 3");
        is(12000, "count 4");
        make("number 0", "road 0 11 0", "loaves 11 0");
        is(0, "count 3");
        is(11, "count 2");
        is(11000, "count 4");
        again();
        villages(0);
        make("place 0 OVEN 0", "place 0 BIG 0", "place 0 OLD 0", "place 0 WEAK 0");
        is(0, "count 5", "count 4");
        is(4, "count 1");
        make("place 0 SHRINE 0");
        is(1, "count 5");
    }

    void promise37Bad() {
        at("Promise 37: BAD.");
        is(BAD, each("count %", -1, 6, MIN, MAX));
        twelve(1, 1);
        tenPlaces(0, "SHRINE", 0);
        is(BAD, each("count %", -1, 6, MIN, MAX));
    }

    void theLastOf512Calls() {
        at("An object is used for at most 512 calls after it has been made");
        make("village 0");
        for (int n = 1; n <= 500; n++) {
            is(n - 1, "loaves 0 " + n);
        }
        for (int left = 9; left >= 0; left--) {
            is(left, "undo");
        }
        is(490, "count 4");
    }
}
