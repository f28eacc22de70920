/** Every way in which a call can be refused, in valleys in which much stands that a refused call could spoil. */
public final class EdgesOfRefusalTest extends Edges {
    public static void main(String[] args) throws ReflectiveOperationException {
        new EdgesOfRefusalTest().runAll();
    }

    /** Five villages, the last not joined; a place of each kind; prices, maps, moves, a highest bound, a past. */
    private void richValley() {
        villages(5, 3, 0, 9, 2);
        roads(4, 3, 5);
        make("place 0 OVEN 10", "place 3 BIG 12", "place 2 WEAK 1", "place 1 SHRINE 50", "place 4 OLD 9");
        make("reach 2 6", "number 4", "number 5", "loaves 4 1", "price 0 50", "price 3 100000000", "climb 3 8");
        fillMaps();
        make("changed 9", "added");
    }

    private void fillMaps() {
        make("map 0 BYTES 7", "lay 0 1 1", "lay 0 2 100", "lay 0 3 2", "lay 0 5 9");
        make("map 1 INTS 6", "lay 1 0 3", "lay 1 1 1", "lay 1 2 1000", "lay 1 3 3", "lay 1 4 2", "lay 1 5 1");
        make("map 2 LONGS 3", "lay 2 0 2", "lay 2 1 1", "lay 2 2 4294967296");
    }

    void buildingCalls() {
        at("what is refused changes nothing");
        richValley();
        is(BAD, each("village %", -1, 1001, MIN, MAX));
        is(BAD, each("loaves 0 %", -1, 1001, MIN, MAX));
        is(BAD, each("loaves % 7", -1, 5, 11, 12, MIN, MAX));
        is(BAD, each("road 0 1 %", -1, 1001, MIN, MAX));
        is(BAD, each("road 0 % 7", -1, 0, 5, 11, 12, MIN, MAX));
        is(BAD, each("road % 0 7", -1, 0, 5, 11, 12, MIN, MAX));
        is(BAD, each("place % OVEN 7", -1, 5, 11, 12, MIN, MAX));
        is(BAD, each("place 0 % 7", -1, 5, MIN, MAX));
        is(BAD, each("place 0 SHRINE %", -1, 100001, MIN, MAX));
        is(BAD, each("reach 2 %", -1, 12001, MIN, MAX));
        is(BAD, each("reach % 7", -1, 5, 9, 10, 34, MIN, MAX));
        is(STATE, each("reach % 7", 0, 1, 3, 4));
        is(BAD, each("number %", -1, 21, MIN, MAX));
        is(BAD, each("count %", -1, 6, MIN, MAX));
    }

    void mapCalls() {
        at("what is refused changes nothing");
        richValley();
        is(BAD, each("map 0 BYTES %", 61, MAX));
        is(BAD, each("map % BYTES 7", -1, 4, MIN, MAX));
        is(BAD, each("map 1 % 7", -1, 3, MIN, MAX));
        is(SIZE, each("map 1 INTS %", -1, MIN));
        is(BAD, each("lay % 0 7", -1, 4, MIN, MAX));
        is(NULL, each("lay 3 % 7", 0, -1, 60));
        is(INDEX, each("lay 0 % 7", -1, 7, 60, MIN, MAX));
        is(INDEX, each("lay 1 % 7", -1, 6, 60, MIN, MAX));
        is(BAD, each("draw % INTS 1", -1, 4, MIN, MAX));
        is(BAD, each("draw 1 % 1", -1, 3, MIN, MAX));
        is(BAD, each("draw 1 INTS %", -1, MIN));
        is(NULL, each("draw 3 INTS %", 0, 1, MAX));
        is(CAST, each("draw 1 LONGS %", 0, 1, MAX));
        is(INDEX, each("draw 0 BYTES %", 3, MAX));
        is(INDEX, each("draw 1 INTS %", 3, MAX));
        is(ROAD_REFUSED, each("draw 2 LONGS %", 1, 2, MAX));
        make("lay 0 5 -1", "lay 1 3 5");
        is(ROAD_REFUSED, each("draw 0 BYTES %", 2, 3, MAX));
        is(ROAD_REFUSED, each("draw 1 INTS %", 2, 3, MAX));
    }

    void askingCalls() {
        at("what is refused changes nothing");
        richValley();
        is(BAD, "apart 0 5", "apart -1 0", "way 0 5 0", "way -1 0 0", "way 0 1 -1");
        is(NONE, "apart 0 4", "way 0 4 0", "way 0 1 2", "served 0 0", "cost 1");
        is(BAD, "allowed 32", "cost -1", "served 32 0", "served 0 5", "share 32 0 0", "share 1 5 0", "share 1 0 3");
        is(STATE, "share 1 1 0", "lose 3");
        is(BAD, "every 5", "every -1", "second 32", "second -1", "lose 5", "lose -1");
        is(NONE, "lose 4");
        is(BAD, each("changed %", 32, -1, MIN, MAX));
        is(STATE, each("changed %", 0, 1, 31));
        is(BAD, each("price 0 %", -1, 100000001, MIN, MAX));
        is(BAD, each("price % 7", -1, 5, 11, 12, MIN, MAX));
        is(BAD, "gives 5 0", "gives -1 0", "gives 0 5", "gives 0 -1");
        is(BAD, each("climb % 7", -1, 101, MIN, MAX));
        is(BAD, each("climb 7 %", 0, -1, 100001, MIN, MAX));
    }

    /** No choice is allowed: two shrines, and the number is 1. */
    void nothingIsAllowed() {
        at("what is refused changes nothing");
        richValley();
        make("place 4 SHRINE 0", "number 1");
        is(STATE, "added", "changed 8", "changed 40", "changed 0", "climb 0 7", "climb 7 7");
        is(NONE, "least", "best", "every 0", "second 0", "lose 0", "worst", "farthest", "nearest", "bound");
        is(STATE, "lose 3");
        is(0, "many", "allowed 40");
    }

    /** Twelve villages, ten places, and the latest change is ten calls and more ago. */
    void fullValley() {
        at("what is refused changes nothing");
        twelve(7, 9);
        for (int p = 0; p < 10; p++) {
            make("place " + (11 - p) + " " + p % 5 + " " + 10 * p);
        }
        make("price 11 500", "climb 2 30", "added");
        fillMaps();
        is(FULL, each("village %", 0, 1, 1000));
        is(BAD, each("village %", -1, 1001));
        is(FULL, each("place 0 % 0", 0, 1, 2, 3, 4));
        is(FULL, each("place 11 OVEN %", 0, 100000));
        is(BAD, each("place % OVEN 0", -1, 12));
        is(BAD, each("place 0 % 0", -1, 5));
        is(BAD, each("place 0 OVEN %", -1, 100001));
        is(BAD, each("loaves % 1", -1, 12));
        is(BAD, each("road 11 % 1", -1, 11, 12));
        is(BAD, each("road % 11 1", -1, 11, 12));
        is(BAD, each("reach % 1", -1, 10));
        is(STATE, each("reach % 1", 0, 1, 2, 3, 5, 6, 7, 8));
        is(BAD, each("price % 1", -1, 12));
        is(BAD, each("changed %", 1024, -1));
        is(STATE, each("changed %", 0, 1023));
        is(BAD, "climb 101 1", "climb 1 100001");
    }
}
