/** The edges of promises 26 to 28: ovens put up one by one, changed one for another. */
public final class EdgesOneByOneTest extends Edges {
    public static void main(String[] args) throws ReflectiveOperationException {
        new EdgesOneByOneTest().runAll();
    }

    void promise26FromTheShrinesOn() {
        at("Promise 26: From the SHRINES on, as long as it is ALLOWED");
        is(0, "added", "moves");
        villages(1, 1, 1);
        make("place 0 SHRINE 0", "place 1 OVEN 5", "place 2 OVEN 6", "number 3");
        is(7, "added");
        is(2, "moves");
        make("number 2");
        is(3, "added");
        is(1, "moves");
        make("number 1");
        is(1, "added");
        is(0, "moves");
        again();
        twelve(1, 0);
        for (int v = 0; v < 10; v++) {
            make("place " + v + " OVEN 1");
        }
        make("number 10");
        is(1023, "added");
        is(10, "moves");
        make("number 9");
        is(511, "added");
        is(9, "moves");
        make("number 0");
        is(0, "added", "moves");
    }

    void promise26BigOnes() {
        at("Promise 26: as long as it is ALLOWED");
        villages(1, 1);
        make("place 0 BIG 0", "place 1 OVEN 9", "number 1");
        is(2, "added");
        make("number 2");
        is(1, "added");
        make("number 3");
        is(3, "added");
    }

    void promise26IfLess() {
        at("Promise 26: the PLACE is added that makes the MEASURE least, if less than it is");
        villages(1, 1);
        make("road 0 1 10", "place 0 OVEN 0", "place 1 OVEN 10");
        is(1, "added", "moves");
        make("place 1 OVEN 9");
        is(5, "added");
        is(2, "moves");
        make("loaves 0 0", "loaves 1 0");
        is(0, "added", "moves");
        again();
        villages(0, 0);
        make("place 0 OLD 0", "place 1 OVEN 0");
        is(0, "added", "moves");
    }

    void promise26LeastPlace() {
        at("Promise 26: (the least PLACE of several)");
        villages(1);
        tenPlaces(0, "OVEN", 5);
        is(1, "added", "moves");
        again();
        villages(1);
        for (int p = 0; p < 9; p++) {
            make("place 0 OVEN 5");
        }
        make("place 0 OVEN 4");
        is(512, "added");
    }

    void promise26State() {
        at("Promise 26: STATE: the SHRINES alone are not ALLOWED.");
        villages(1);
        tenPlaces(0, "SHRINE", 0);
        is(STATE, "added");
        make("number 9");
        is(STATE, "added");
        make("number 10");
        is(1023, "added");
        again();
        villages(1);
        make("place 0 OVEN 0", "number 0");
        is(0, "added");
        make("place 0 SHRINE 0");
        is(STATE, "added");
        make("number 1");
        is(2, "added");
    }

    void promise27Changed() {
        at("Promise 27: From an ALLOWED CHOICE on: one oven is taken out of it, another PLACE comes in,"
            + " as long as there are two by which it is ALLOWED and the MEASURE less");
        is(0, "changed 0", "moves");
        villages(1);
        is(0, "changed 0");
        make("place 0 OVEN 5");
        is(0, "changed 0");
        is(1, "changed 1");
        is(0, "moves");
        make("place 0 OVEN 5");
        is(1, "changed 1");
        is(2, "changed 2");
        is(0, "moves");
        make("place 0 OVEN 4");
        is(4, "changed 1", "changed 2", "changed 4");
        is(6, "changed 3");
        is(1, "moves");
        is(7, "changed 7");
        is(0, "moves");
    }

    void promise27Full() {
        at("Promise 27: one oven is taken out of it, another PLACE comes in");
        villages(1);
        for (int build = 9; build >= 0; build--) {
            make("place 0 OVEN " + build);
        }
        make("number 10");
        is(1023, "changed 1023");
        is(0, "moves", "changed 0");
        is(1022, "changed 511");
        is(1, "moves");
        is(512, "changed 1", "changed 512");
        is(512 + 256 + 128 + 64 + 32, "changed 31");
        is(5, "moves");
    }

    void promise27StaysAllowed() {
        at("Promise 27: as long as there are two by which it is ALLOWED and the MEASURE less");
        villages(1, 0);
        make("road 0 1 10", "place 1 OVEN 0", "place 0 BIG 0", "place 1 SHRINE 0", "number 2");
        is(5, "changed 5");
        make("number 3");
        is(6, "changed 5");
        is(1, "moves");
        is(4, "changed 4");
    }

    void promise27LeastOutThenIn() {
        at("Promise 27: those by which it is least (the least PLACE out, then in, of several): the CHOICE.");
        villages(1);
        for (int p = 0; p < 5; p++) {
            make("place 0 OVEN 5");
        }
        for (int p = 5; p < 10; p++) {
            make("place 0 OVEN 4");
        }
        make("number 2");
        is(32 + 64, "changed 3", "changed 24");
        is(2, "moves");
        is(32 + 512, "changed 513");
        is(1, "moves");
    }

    void promise27Bad() {
        at("Promise 27: BAD");
        is(BAD, each("changed %", 1, 1024, -1, MIN, MAX));
        villages(1);
        make("place 0 OVEN 0");
        is(BAD, each("changed %", 2, 3, 1024, -1, -2, MIN, MAX));
        again();
        villages(1);
        tenPlaces(0, "OVEN", 0);
        is(BAD, each("changed %", 1024, 1025, -1, -1024, MIN, MAX));
        make("undo");
        is(BAD, each("changed %", 512, 513));
    }

    void promise27State() {
        at("Promise 27: STATE: it is not ALLOWED.");
        villages(1);
        make("place 0 OVEN 0", "place 0 OVEN 0", "number 1");
        is(STATE, "changed 3");
        is(1, "changed 1");
        make("number 0");
        is(STATE, "changed 1", "changed 2", "changed 3");
        is(0, "changed 0");
        make("number 1", "place 0 SHRINE 0");
        is(STATE, "changed 0", "changed 1", "changed 5");
        is(4, "changed 4");
        make("number 0");
        is(STATE, "changed 4", "changed 0");
    }

    void promise28Before() {
        at("Promise 28: 0 before.");
        is(0, "moves");
        villages(1, 1);
        make("place 0 OVEN 0", "place 1 OVEN 0", "least", "climb 1 1");
        is(0, "moves");
        is(BAD, "changed 4");
        is(0, "moves");
    }

    void promise28Latest() {
        at("Promise 28: How many ovens were added, changed by the latest added(), changed() that was not refused");
        villages(1, 1);
        make("place 0 OVEN 0", "place 1 OVEN 0", "place 0 OVEN 7");
        is(3, "added");
        is(2, "moves");
        is(BAD, "changed 8", "changed -1");
        is(2, "moves");
        is(3, "changed 6");
        is(1, "moves");
        make("number 1");
        is(STATE, "changed 3");
        is(1, "moves");
        make("number 0", "place 0 SHRINE 0");
        is(STATE, "added", "changed 8", "changed 0");
        is(1, "moves");
        make("undo", "undo");
        is(1, "moves");
        is(0, "changed 0", "moves");
    }
}
