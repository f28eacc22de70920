/** The edges of promises 11 and 12: how far villages are apart, and the way itself. */
public final class EdgesOfWaysTest extends Edges {
    public static void main(String[] args) throws ReflectiveOperationException {
        new EdgesOfWaysTest().runAll();
    }

    void promise11Way() {
        at("Promise 11: THE WAY between two.");
        twelve(0, 1);
        is(0, "apart 0 0", "apart 11 11");
        is(1, "apart 0 1", "apart 11 10");
        is(11, "apart 0 11", "apart 11 0");
        make("road 0 11 10");
        is(10, "apart 0 11");
        make("road 0 11 12");
        is(11, "apart 0 11");
    }

    void promise11Bad() {
        at("Promise 11: BAD");
        is(BAD, "apart 0 0", "apart -1 -1");
        villages(0);
        is(0, "apart 0 0");
        is(BAD, each("apart 0 %", -1, 1, MIN, MAX));
        is(BAD, each("apart % 0", -1, 1, MIN, MAX));
        again();
        twelve(0, 1);
        is(BAD, each("apart 11 %", -1, 12, MIN, MAX));
        is(BAD, each("apart % 11", -1, 12, MIN, MAX));
    }

    void promise11None() {
        at("Promise 11: NONE.");
        twelve(0, 0);
        is(NONE, "apart 0 11", "apart 11 0", "apart 5 6");
        make("road 0 11 1000");
        is(1000, "apart 0 11");
        is(NONE, "apart 0 10", "apart 11 1");
    }

    void promise12First() {
        at("Promise 12: VILLAGE i of a WAY from a to b (a is the first one)");
        villages(0, 0, 0);
        roads(1, 1000);
        is(0, "way 0 2 0", "way 2 0 2", "way 0 0 0");
        is(1, "way 0 2 1", "way 2 0 1", "way 1 1 0");
        is(2, "way 0 2 2", "way 2 0 0", "way 2 2 0");
        again();
        twelve(0, 1);
        for (int i = 0; i < 12; i++) {
            is(i, "way 0 11 " + i);
            is(11 - i, "way 11 0 " + i);
        }
    }

    void promise12LeastVillage() {
        at("Promise 12: of all such WAYS the one that goes on to the least VILLAGE each time.");
        villages(0, 0, 0, 0, 0);
        make("road 0 1 2", "road 0 2 2", "road 1 4 2", "road 2 4 2", "road 0 4 4");
        is(1, "way 0 4 1");
        is(4, "way 0 4 2");
        is(0, "way 4 0 1");
        is(NONE, "way 4 0 2");
        make("road 0 4 5");
        is(1, "way 4 0 1");
        make("road 0 1 3");
        is(2, "way 0 4 1", "way 4 0 1");
        make("road 0 1 2", "road 1 4 0", "road 1 3 1", "road 3 4 1");
        is(1, "way 0 4 1");
        is(3, "way 0 4 2");
        is(2, "way 4 0 1");
        make("road 0 3 4", "road 2 4 3", "road 0 4 5");
        is(1, "way 0 4 1");
    }

    void promise12Bad() {
        at("Promise 12: BAD");
        is(BAD, "way 0 0 0", "way -1 -1 0");
        villages(0, 0);
        is(BAD, each("way 0 % 0", -1, 2, MIN, MAX));
        is(BAD, each("way % 0 0", -1, 2, MIN, MAX));
        is(BAD, each("way 0 0 %", -1, MIN));
        is(BAD, "way 0 1 -1", "way 2 0 " + MAX);
        again();
        twelve(0, 1);
        is(BAD, each("way 0 % 0", -1, 12, MIN, MAX));
        is(BAD, each("way % 11 11", -1, 12, MIN, MAX));
        is(BAD, each("way 0 11 %", -1, MIN));
    }

    void promise12None() {
        at("Promise 12: NONE: also i is beyond.");
        villages(0, 0, 0);
        is(NONE, "way 0 1 0", "way 0 1 1", "way 0 0 1", "way 0 0 " + MAX);
        make("road 0 1 1000");
        is(1, "way 0 1 1");
        is(NONE, "way 0 1 2", "way 0 1 " + MAX, "way 0 2 0", "way 2 1 0");
        again();
        twelve(0, 1);
        is(11, "way 0 11 11");
        is(NONE, each("way 0 11 %", 12, 13, 100, MAX));
        is(NONE, "way 11 0 12", "way 0 10 11");
        make("road 0 11 1");
        is(NONE, "way 0 11 2");
    }
}
