/** The edges of promises 1 to 7: the new object, villages, roads, places, the number. */
public final class EdgesOfBuildingTest extends Edges {
    public static void main(String[] args) throws ReflectiveOperationException {
        new EdgesOfBuildingTest().runAll();
    }

    void promise1Counts() {
        at("Promise 1: No VILLAGES, no PLACES");
        is(0, "count 0", "count 1", "count 2", "count 4", "count 5");
        is(3, "count 3");
        is(BAD, "loaves 0 0", "road 0 1 1", "road 0 0 0", "place 0 OVEN 0", "reach 0 0", "apart 0 0", "way 0 0 0");
        is(BAD, "allowed 1", "cost 1", "served 0 0", "share 0 0 0", "every 0", "second 1", "lose 0", "changed 1");
        is(BAD, "price 0 0", "gives 0 0");
        is(0, "priced 0", "worth 0", "moves", "highest");
        is(NONE, "undo");
    }

    void promise1Choices() {
        at("Promise 1: No VILLAGES, no PLACES");
        is(1, "allowed 0", "many");
        is(0, "cost 0", "least", "best", "farthest", "nearest", "added", "changed 0", "bound");
        is(NONE, "second 0", "worst");
        is(0, "climb 0 1", "climb 100 100000", "highest", "moves");
        is(3, "number 0");
        is(1, "allowed 0", "many");
        is(0, "least", "best", "added", "bound");
    }

    void promise1Maps() {
        at("Promise 1: MAPS of nothing.");
        for (int k = 0; k < 4; k++) {
            is(NULL, "lay " + k + " 0 0", "lay " + k + " -1 0");
            is(NULL, each("draw " + k + " % 0", 0, 1, 2));
        }
    }

    void promise1ObjectsAreApart() {
        at("Promise 1: No VILLAGES, no PLACES, MAPS of nothing.");
        twelve(1, 1);
        tenPlaces(0, "OVEN", 0);
        make("map 0 BYTES 60", "price 0 5", "number 20", "climb 1 1", "added");
        again();
        is(0, "count 0", "count 1", "count 2", "highest", "moves");
        is(3, "count 3");
        is(NULL, "lay 0 0 0");
        is(NONE, "undo");
    }

    void promise2Full() {
        at("Promise 2: A VILLAGE: its number. BAD; FULL.");
        for (int v = 0; v < 11; v++) {
            is(v, "village 1000");
        }
        is(BAD, "village 1001", "village -1");
        is(11, "village 0");
        is(FULL, "village 0", "village 1", "village 1000");
        is(BAD, each("village %", -1, 1001, MIN, MAX));
        is(11000, "count 4");
        is(9, "undo");
        is(11, "village 1000");
        is(FULL, "village 0");
    }

    void promise3Village() {
        at("Promise 3: A VILLAGE's LOAVES become these: what they were. BAD.");
        is(BAD, each("loaves % 1", 0, -1, MIN, MAX));
        villages(7);
        is(BAD, each("loaves % 1", -1, 1, MIN, MAX));
        is(7, "loaves 0 8");
        again();
        twelve(2, 1);
        is(2, "loaves 0 3", "loaves 11 4");
        is(BAD, each("loaves % 1", -1, 12, MIN, MAX));
        is(27, "count 4");
    }

    void promise3Loaves() {
        at("Promise 3: A VILLAGE's LOAVES become these: what they were.");
        villages(1000, 1);
        is(1000, "loaves 0 0");
        is(0, "loaves 0 0", "loaves 0 1");
        is(1, "loaves 0 1000");
        is(1000, "loaves 0 1000");
        is(BAD, each("loaves 0 %", -1, 1001, MIN, MAX));
        is(BAD, "loaves 2 1001");
        is(1001, "count 4");
    }

    void promise4Villages() {
        at("Promise 4: A ROAD between two VILLAGES gets a LENGTH");
        villages(1);
        is(BAD, "road 0 1 1", "road 1 0 1", "road 0 -1 1", "road -1 0 1");
        villages(1);
        is(BAD, each("road 0 % 1", -1, 2, MIN, MAX));
        is(BAD, each("road % 0 1", -1, 2, MIN, MAX));
        is(0, "road 1 0 4");
        is(4, "road 0 1 5");
        again();
        twelve(1, 1);
        is(0, "road 0 11 1000");
        is(1000, "road 11 0 1");
        is(BAD, each("road 11 % 1", -1, 12, MIN, MAX));
        is(BAD, each("road % 11 1", -1, 12, MIN, MAX));
        is(12, "count 2");
    }

    void promise4NoLength() {
        at("Promise 4: 0: there is none: what it was (0: none).");
        villages(1, 1);
        is(0, "road 0 1 0", "road 1 0 0", "count 2");
        is(0, "road 0 1 1000");
        is(1000, "road 1 0 0");
        is(0, "count 2", "road 0 1 0");
        is(NONE, "apart 0 1");
        is(0, "road 0 1 1");
        is(1, "road 0 1 0");
        is(BAD, "road 0 1 -1");
        is(0, "count 2");
    }

    void promise4BothAreOne() {
        at("Promise 4: BAD: also a and b are one.");
        villages(1);
        is(BAD, "road 0 0 1", "road 0 0 0", "road 0 0 1000");
        again();
        twelve(1, 1);
        is(BAD, "road 0 0 1", "road 11 11 1", "road 11 11 0", "road 12 12 1", "road -1 -1 1");
        is(0, "apart 11 11");
        is(11, "count 2");
    }

    void promise4EveryRoad() {
        at("Promise 4: A ROAD between two VILLAGES gets a LENGTH");
        twelve(1, 0);
        for (int a = 0; a < 12; a++) {
            for (int b = 0; b < a; b++) {
                is(0, "road " + a + " " + b + " " + (100 + a * 12 + b));
            }
        }
        is(66, "count 2");
        is(100 + 11 * 12 + 10, "road 10 11 1000");
        is(100 + 12, "road 0 1 0");
        is(65, "count 2");
    }

    void promise5Village() {
        at("Promise 5: A PLACE: its number. BAD");
        is(BAD, each("place % OVEN 0", 0, -1, MIN, MAX));
        villages(1);
        is(BAD, each("place % OVEN 0", -1, 1, MIN, MAX));
        is(0, "place 0 OVEN 0");
        again();
        twelve(1, 1);
        is(BAD, each("place % OVEN 0", -1, 12, MIN, MAX));
        is(0, "place 11 OVEN 0");
        is(11, "share 1 0 2");
        is(1, "place 0 OVEN 0");
    }

    void promise5Full() {
        at("Promise 5: FULL.");
        villages(1);
        for (int p = 0; p < 9; p++) {
            is(p, "place 0 OVEN 1");
        }
        is(BAD, "place 0 5 0", "place 0 OVEN 100001", "place 1 OVEN 0");
        is(9, "place 0 WEAK 100000");
        is(FULL, each("place 0 % 0", 0, 1, 2, 3, 4));
        is(BAD, each("place 0 % 0", -1, 5));
        is(BAD, each("place % OVEN 0", -1, 1));
        is(BAD, each("place 0 OVEN %", -1, 100001));
        is(100000, "cost 512");
        is(9, "undo");
        is(9, "place 0 OVEN 7");
        is(7, "cost 512");
        is(FULL, "place 0 OVEN 0");
    }

    void promise6Reach() {
        at("Promise 6: The REACH of a PLACE (0 to 12000): what it was.");
        villages(1);
        make("place 0 WEAK 0");
        is(BAD, each("reach 0 %", -1, 12001, MIN, MAX));
        is(20, "reach 0 0");
        is(0, "reach 0 12000");
        is(12000, "reach 0 12000", "reach 0 1");
        is(BAD, each("reach 0 %", -1, 12001, MIN, MAX));
        is(1, "reach 0 20");
    }

    void promise6Place() {
        at("Promise 6: BAD; STATE: it is not WEAK.");
        is(BAD, each("reach % 1", 0, -1, MIN, MAX));
        villages(1);
        for (int kind = 0; kind < 4; kind++) {
            make("place 0 " + kind + " 0");
            is(STATE, "reach " + kind + " 0", "reach " + kind + " 12000");
            is(BAD, "reach " + kind + " -1", "reach " + kind + " 12001");
        }
        is(BAD, each("reach % 1", -1, 4, MIN, MAX));
        again();
        villages(1);
        tenPlaces(0, "WEAK", 0);
        is(20, "reach 0 5", "reach 9 6");
        is(5, "reach 0 20");
        is(BAD, each("reach % 1", -1, 10, 32, MIN, MAX));
    }

    void promise7() {
        at("Promise 7: THE NUMBER: what it was. BAD.");
        is(BAD, each("number %", -1, 21, MIN, MAX));
        is(3, "number 20");
        is(20, "number 20", "number 0");
        is(0, "number 0");
        is(BAD, each("number %", -1, 21, MIN, MAX));
        is(0, "number 1");
        is(1, "count 3");
    }
}
