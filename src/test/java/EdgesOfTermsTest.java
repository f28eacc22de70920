/** The edges that the document's terms name. */
public final class EdgesOfTermsTest extends Edges {
    public static void main(String[] args) throws ReflectiveOperationException {
        new EdgesOfTermsTest().runAll();
    }

    void answersAreTheFirstThatFits() {
        at("the first that fits");
        twelve(1, 1);
        tenPlaces(0, "SHRINE", 0);
        is(FULL, "village 0");
        is(BAD, "village 1001", "village -1");
        is(FULL, "place 0 OVEN 0");
        is(BAD, "place 12 OVEN 0", "place 0 5 0", "place 0 OVEN -1");
        is(STATE, "reach 9 0");
        is(BAD, "reach 9 12001", "reach 10 0");
        is(STATE, "share 0 0 0");
        is(BAD, "share 0 0 3", "share 1024 0 0", "share 0 10 0");
        is(NONE, "served 0 0");
        is(BAD, "served 1024 0", "served 0 12");
        is(NONE, "cost 0");
        is(BAD, "cost 1024");
        is(NONE, "least", "best", "worst", "farthest", "nearest", "bound", "every 9", "second 0");
        is(BAD, "every 10", "second 1024");
        is(STATE, "lose 9");
        is(BAD, "lose 10");
        is(STATE, "added", "changed 0", "climb 0 1");
        is(BAD, "changed 1024", "climb 0 0", "climb 101 1");
        is(NONE, "way 0 11 12");
        is(BAD, "way 0 12 12", "way 12 0 0");
    }

    void villagesAreTwelve() {
        at("VILLAGES (12) are numbered as they come");
        for (int v = 0; v < 12; v++) {
            is(v, "count 0", "village 1");
        }
        is(12, "count 0");
        is(FULL, "village 1", "village 0", "village 1000");
        is(12, "count 0", "count 4");
        is(1, "loaves 11 5");
        is(BAD, "loaves 12 5");
    }

    void loavesAreTo1000() {
        at("each with LOAVES (0 to 1000)");
        is(BAD, each("village %", -1, 1001, MIN, MAX));
        is(0, "village 0", "count 4");
        is(1, "village 1000");
        is(1000, "count 4");
        is(BAD, each("village %", -1, 1001, MIN, MAX));
        is(BAD, each("loaves 0 %", -1, 1001, MIN, MAX));
        is(0, "loaves 0 1000");
        is(1000, "loaves 0 0");
        is(1000, "count 4");
    }

    void pricesAre0AtFirst() {
        at("and a PRICE (a long, 0 at first)");
        for (int v = 0; v < 12; v++) {
            make("village 1");
            is(0, "priced " + v);
            make("price " + v + " 100000000");
        }
        is(100000000, "priced 0", "priced 11");
        is(1200000000, "bound");
    }

    void lengthsAreTo1000() {
        at("Between two there may be a ROAD of a LENGTH (1 to 1000)");
        villages(0, 0);
        is(NONE, "apart 0 1");
        is(BAD, each("road 0 1 %", -1, 1001, MIN, MAX));
        is(0, "road 0 1 1");
        is(1, "apart 0 1", "count 2");
        is(1, "road 0 1 1000");
        is(1000, "apart 0 1");
        is(1, "count 2");
        is(BAD, each("road 0 1 %", -1, 1001, MIN, MAX));
        is(1000, "apart 0 1");
    }

    void waysAreLeastSums() {
        at("THE WAY between two is the least sum of LENGTHS of ROADS one behind another (0 of one to itself)");
        villages(0);
        is(0, "apart 0 0");
        villages(0, 0);
        is(0, "apart 2 2");
        roads(500, 499);
        make("road 0 2 1000");
        is(999, "apart 0 2", "apart 2 0");
        make("road 1 2 501");
        is(1000, "apart 0 2");
        make("road 0 2 1");
        is(0, "apart 1 1");
        again();
        twelve(0, 1000);
        is(11000, "apart 0 11", "apart 11 0");
        is(0, "apart 0 0", "apart 11 11");
        make("road 0 11 1000");
        is(6000, "apart 0 6", "apart 3 9");
    }

    void noWay() {
        at("none, if nothing joins them");
        villages(0, 0, 0);
        is(NONE, "apart 0 1", "apart 1 0", "apart 0 2");
        make("road 0 1 1000");
        is(NONE, "apart 0 2", "apart 2 1");
        again();
        twelve(0, 1000);
        make("road 10 11 0");
        is(10000, "apart 0 10");
        is(NONE, "apart 0 11", "apart 11 0", "apart 10 11");
    }

    void mapsAreFourOfThreeLanes() {
        at("MAPS 0 to 3 are rows of BYTES (lane 0), INTS (1), LONGS (2)");
        is(BAD, each("map % BYTES 1", -1, 4, MIN, MAX));
        is(BAD, each("map 0 % 1", -1, 3, MIN, MAX));
        is(1, "map 0 BYTES 1", "map 1 INTS 1", "map 2 LONGS 1", "map 3 BYTES 1");
        is(0, "draw 0 BYTES 0", "draw 1 INTS 0", "draw 2 LONGS 0", "draw 3 BYTES 0");
        is(CAST, "draw 0 INTS 0", "draw 1 LONGS 0", "draw 2 BYTES 0");
        is(BAD, each("lay % 0 1", -1, 4, MIN, MAX));
        is(BAD, each("draw % BYTES 0", -1, 4, MIN, MAX));
        is(BAD, each("draw 0 % 0", -1, 3, MIN, MAX));
    }

    void cellsAreTo60() {
        at("with 0 to 60 CELLS, or nothing (as at first)");
        for (int k = 0; k < 4; k++) {
            is(NULL, "lay " + k + " 0 0");
            is(BAD, "map " + k + " LONGS 61");
            is(NULL, "lay " + k + " 0 0");
            is(1, "map " + k + " LONGS 60", "lay " + k + " 0 0", "lay " + k + " 59 0");
            is(INDEX, "lay " + k + " 60 0");
            is(1, "map " + k + " LONGS 0");
            is(INDEX, "lay " + k + " 0 0");
        }
    }

    void faults() {
        at("1 NULL (nothing), 2 INDEX, 3 CAST (another lane), 4 SIZE (below 0)");
        is(-11, "lay 0 0 0", "draw 0 BYTES 1");
        is(-14, "map 0 BYTES -1");
        is(1, "map 0 BYTES 1");
        is(-12, "lay 0 1 0", "lay 0 -1 0", "draw 0 BYTES 1");
        is(-13, "draw 0 INTS 1", "draw 0 LONGS 1");
        is(-14, "map 0 BYTES -1");
    }

    void placesAreTen() {
        at("PLACES (10) are numbered as they come");
        villages(1);
        for (int p = 0; p < 10; p++) {
            is(p, "count 1", "place 0 OVEN 0");
        }
        is(10, "count 1");
        is(FULL, "place 0 OVEN 0", "place 0 SHRINE 0", "place 0 WEAK 100000");
        is(10, "count 1");
        is(0, "cost 512");
    }

    void kindsAreFive() {
        at("KINDS: 0 OVEN: so.");
        villages(1);
        is(BAD, each("place 0 % 0", -1, 5, MIN, MAX));
        for (int kind = 0; kind <= 4; kind++) {
            is(kind, "place 0 " + kind + " 0");
        }
        is(BAD, each("place 0 % 0", -1, 5, MIN, MAX));
    }

    void buildsAreTo100000() {
        at("with a BUILD (0 to 100000)");
        villages(1);
        is(BAD, each("place 0 OVEN %", -1, 100001, MIN, MAX));
        is(0, "place 0 OVEN 0");
        is(1, "place 0 OVEN 100000");
        is(0, "cost 1");
        is(100000, "cost 2", "cost 3");
        is(BAD, each("place 0 OVEN %", -1, 100001, MIN, MAX));
    }

    void theNumberIsTo20() {
        at("An oven there counts as 1 of THE NUMBER (0 to 20; 3 at first)");
        is(3, "count 3");
        is(BAD, each("number %", -1, 21, MIN, MAX));
        villages(1);
        tenPlaces(0, "OVEN", 0);
        is(1, "allowed 7");
        is(0, "allowed 15");
        is(3, "number 0");
        is(1, "allowed 0");
        is(0, "allowed 1", "allowed 512", "number 10");
        is(1, "allowed 1023");
        is(10, "number 9");
        is(0, "allowed 1023");
        is(9, "number 20");
        is(20, "count 3");
        is(BAD, each("number %", -1, 21, MIN, MAX));
    }

    void anOvenCarriesTheWholeWay() {
        at("carries bread over a WAY as far as it is, and costs its BUILD");
        villages(0, 1);
        make("place 0 OVEN 7", "road 0 1 1");
        is(8, "cost 1");
        make("road 0 1 1000");
        is(1007, "cost 1");
        again();
        twelve(0, 1000);
        make("place 0 OVEN 0", "loaves 11 1000");
        is(11000000, "cost 1");
    }

    void aBigOneCountsAs2() {
        at("1 BIG: counts as 2");
        villages(1);
        tenPlaces(0, "BIG", 0);
        make("number 2");
        is(1, "allowed 1", "allowed 512");
        is(0, "allowed 3");
        make("number 1");
        is(0, "allowed 1", "allowed 512");
        is(1, "allowed 0");
        make("number 20");
        is(1, "allowed 1023");
        make("number 19");
        is(0, "allowed 1023");
        is(1, "allowed 511");
    }

    void aBigOneCarriesHalf() {
        at("carries half the WAY (a half left over whole)");
        villages(1, 0);
        make("place 0 BIG 0", "road 0 1 1");
        is(0, "cost 1");
        make("loaves 0 0", "loaves 1 1");
        int[] ways = {1, 2, 3, 4, 999, 1000};
        int[] halves = {1, 1, 2, 2, 500, 500};
        for (int i = 0; i < ways.length; i++) {
            make("road 0 1 " + ways[i]);
            is(halves[i], "cost 1", "share 1 0 2", "farthest");
        }
        again();
        twelve(0, 1000);
        make("place 0 BIG 0", "loaves 11 1");
        is(5500, "cost 1");
        make("road 10 11 999");
        is(5500, "cost 1");
        make("road 10 11 998");
        is(5499, "cost 1");
    }

    void anOldOneCostsNothing() {
        at("2 OLD: costs nothing.");
        villages(1);
        make("place 0 OLD 100000", "place 0 OLD 0", "number 1");
        is(0, "cost 1", "cost 2", "cost 3", "least");
        is(1, "allowed 1");
        is(0, "allowed 3");
    }

    void aShrineStandsInEveryChoice() {
        at("3 SHRINE: an OLD one that stands in every choice.");
        villages(1);
        make("place 0 SHRINE 100000", "place 0 OVEN 0");
        is(0, "cost 1", "allowed 0", "allowed 2");
        is(1, "allowed 1", "allowed 3", "best", "every 0");
        again();
        villages(1);
        tenPlaces(0, "SHRINE", 100000);
        make("number 10");
        is(1, "allowed 1023", "many");
        is(0, "allowed 511", "allowed 1022", "cost 1023");
        make("number 9");
        is(0, "allowed 1023", "many");
        is(NONE, "least");
    }

    void aWeakOneServesWithinItsReach() {
        at("4 WEAK: serves no VILLAGE whose WAY is above its REACH (20 at first).");
        villages(1, 1);
        make("place 0 WEAK 0", "road 0 1 20");
        is(0, "served 1 1");
        is(20, "cost 1", "farthest");
        make("road 0 1 21");
        is(NONE, "served 1 1", "cost 1", "farthest");
        make("reach 0 21");
        is(0, "served 1 1");
        make("reach 0 0", "road 0 1 1");
        is(NONE, "served 1 1");
        is(0, "served 1 0");
        again();
        twelve(0, 1000);
        make("place 0 WEAK 0", "reach 0 11000");
        is(0, "served 1 11");
        make("reach 0 10999");
        is(NONE, "served 1 11");
        is(0, "served 1 10");
    }

    void aChoiceIsBits() {
        at("A CHOICE is a set of PLACES: bit p is 1 with PLACE p.");
        villages(1);
        tenPlaces(0, "OVEN", 0);
        is(0, "served 1 0", "served 3 0", "served 1023 0");
        is(9, "served 512 0");
        is(8, "served 768 0");
        is(1, "share 1 0 0", "share 512 9 0");
        is(STATE, "share 1 9 0", "share 512 0 0", "share 511 9 0", "share 1022 0 0");
        is(BAD, "served 1024 0", "served -1 0", "share 1024 9 0");
    }

    void aChoiceIsAllowed() {
        at("It is ALLOWED, if all SHRINES are in it, and its ovens count THE NUMBER at most.");
        villages(1);
        make("place 0 SHRINE 0", "place 0 OVEN 0", "place 0 BIG 0", "place 0 SHRINE 0");
        is(1, "allowed 9", "allowed 11");
        is(0, "allowed 1", "allowed 8", "allowed 3", "allowed 13", "allowed 15");
        make("number 4");
        is(1, "allowed 13");
        is(0, "allowed 15");
        make("number 5");
        is(1, "allowed 15");
        make("number 2");
        is(1, "allowed 9");
        is(0, "allowed 11");
        make("number 1");
        is(0, "allowed 9", "allowed 0");
    }

    void aVillageIsServedOverTheLeastWay() {
        at("A VILLAGE is SERVED by the oven of the CHOICE that serves it over the least carried WAY,"
            + " of like ones the least PLACE");
        villages(1, 1, 1);
        roads(10, 10);
        make("place 0 OVEN 0", "place 2 OVEN 0");
        is(0, "served 3 1", "served 3 0");
        is(1, "served 3 2");
        make("road 0 1 11");
        is(1, "served 3 1");
        make("road 0 1 9");
        is(0, "served 3 1");
        make("place 2 BIG 0", "road 0 1 5");
        is(0, "served 5 1");
        make("road 0 1 6");
        is(2, "served 5 1");
        make("place 0 WEAK 0", "reach 3 6");
        is(3, "served 10 1");
        make("reach 3 5");
        is(1, "served 10 1");
    }

    void aVillageIsNotServed() {
        at("not, if none does (nothing joins them; WEAK)");
        villages(1, 1);
        make("place 0 OVEN 0", "place 0 BIG 0", "place 0 WEAK 0");
        is(NONE, "served 0 0", "served 0 1", "served 7 1");
        make("road 0 1 21");
        is(NONE, "served 4 1");
        is(0, "served 5 1");
        make("road 0 1 20");
        is(2, "served 4 1");
    }

    void aCostIsOfBreadAndOvens() {
        at("Its COST: of each VILLAGE with LOAVES these times the carried WAY, and what its ovens cost");
        villages(2, 0, 3);
        make("road 0 1 5", "road 1 2 8", "place 0 OVEN 10", "place 2 BIG 4", "place 1 OLD 50", "place 1 SHRINE 60");
        is(10 + 3 * 13, "cost 1");
        is(4 + 2 * 7, "cost 2");
        is(2 * 5 + 3 * 8, "cost 4", "cost 8", "cost 12");
        is(10 + 4, "cost 3", "cost 7", "cost 15");
        make("loaves 1 1");
        is(10 + 5 + 3 * 13, "cost 1");
        is(4 + 4 + 2 * 7, "cost 2");
        is(10 + 4 + 4, "cost 3");
        is(10 + 4, "cost 7", "cost 15");
    }

    void aCostIsNone() {
        at("none, if a VILLAGE with LOAVES is not SERVED");
        villages(0, 0);
        is(0, "cost 0");
        make("loaves 1 1");
        is(NONE, "cost 0");
        make("place 0 OVEN 5");
        is(NONE, "cost 1");
        make("loaves 1 0");
        is(5, "cost 1");
        make("loaves 1 1", "road 0 1 1");
        is(6, "cost 1");
    }

    void theMeasureIsFirstHowMany() {
        at("Its MEASURE: how many such there are, then the COST of what is SERVED.");
        villages(1000, 1000, 1000, 1000, 1000, 1000, 1000, 1000, 1000, 1000, 1000, 1);
        for (int v = 1; v < 11; v++) {
            make("road 0 " + v + " 1");
        }
        make("road 0 11 1000", "place 0 WEAK 0", "place 11 OVEN 100000", "number 1");
        is(2, "added", "changed 1", "changed 2");
        is(100000 + 1000000 + 10 * 1001000, "cost 2");
        make("loaves 11 0");
        is(1, "added", "changed 1", "changed 2");
        make("road 0 11 0", "loaves 11 1000");
        is(1, "added", "changed 2");
        make("loaves 1 0", "loaves 2 0", "loaves 3 0", "loaves 4 0", "loaves 5 0", "loaves 6 0", "loaves 7 0");
        make("loaves 8 0", "loaves 9 0", "loaves 10 0");
        is(1, "added", "changed 2");
        is(NONE, "cost 1", "cost 2");
    }

    void likeMeasures() {
        at("then the COST of what is SERVED");
        villages(1, 1);
        make("place 0 OVEN 5", "place 1 OVEN 5", "number 1");
        is(1, "added", "changed 1");
        is(2, "changed 2");
        again();
        villages(1, 1);
        make("place 0 OVEN 5", "place 1 OVEN 4", "number 1");
        is(2, "added", "changed 1", "changed 2");
    }

    void theMeasureCountsVillages() {
        at("how many such there are");
        villages(1000, 1, 1);
        make("place 0 OVEN 0", "place 1 OVEN 100000", "road 1 2 1000", "number 1");
        is(2, "added", "changed 1");
        make("loaves 2 0");
        is(1, "added", "changed 2");
    }

    void aPlaceGivesAbove0() {
        at("A PLACE GIVES for a VILLAGE with LOAVES its PRICE less LOAVES times the carried WAY,"
            + " if it serves it and that is above 0.");
        villages(0, 3);
        make("road 0 1 7", "place 0 OVEN 0", "place 0 BIG 0", "place 0 WEAK 0", "price 1 21");
        is(0, "gives 0 1");
        is(9, "gives 1 1");
        make("price 1 22");
        is(1, "gives 0 1", "gives 2 1");
        make("price 1 20", "reach 2 7");
        is(0, "gives 0 1");
        make("price 1 100000000");
        is(99999979, "gives 0 1", "gives 2 1");
        make("reach 2 6");
        is(0, "gives 2 1");
        make("price 0 100000000");
        is(0, "gives 0 0");
        make("loaves 0 1");
        is(100000000, "gives 0 0");
        make("road 0 1 0");
        is(0, "gives 0 1", "gives 1 1");
    }

    void aWorthIs0AtLeast() {
        at("Its WORTH is what it GIVES for all, less what it costs; 0 at least, but for a SHRINE.");
        villages(1);
        make("price 0 10");
        make("place 0 OVEN 9", "place 0 OVEN 10", "place 0 OVEN 11", "place 0 OVEN 100000", "place 0 BIG 100000");
        make("place 0 WEAK 100000", "place 0 OLD 100000", "place 0 SHRINE 100000");
        is(1, "worth 0");
        is(0, "worth 1", "worth 2", "worth 3", "worth 4", "worth 5");
        is(10, "worth 6", "worth 7");
        make("price 0 0");
        is(0, "worth 0", "worth 6", "worth 7");
    }

    void theBoundIsOfVillagesWithLoaves() {
        at("THE BOUND is the sum of all PRICES of VILLAGES with LOAVES,");
        is(0, "bound");
        villages(1, 0, 1000);
        make("price 0 10", "price 1 200", "price 2 3000");
        is(3010, "bound");
        make("loaves 1 1");
        is(3210, "bound");
        make("loaves 0 0", "loaves 2 0");
        is(200, "bound");
    }

    void theBoundMayBeNone() {
        at("less the greatest sum of WORTHS of an ALLOWED CHOICE (none, if there is none such)");
        villages(1, 0);
        make("price 0 10", "price 1 10", "place 0 SHRINE 0", "place 0 OVEN 3", "number 1");
        is(0, "bound");
        make("number 0");
        is(NONE, "bound");
        make("number 2");
        isBelow0(-7, "bound");
    }
}
