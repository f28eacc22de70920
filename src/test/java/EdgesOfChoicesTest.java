/** The edges of promises 13 to 25: what a choice is and costs, the best of all, ovens lost, the farthest village. */
public final class EdgesOfChoicesTest extends Edges {
    /** Choices that have bits of no places, whatever places there are. */
    private static final long[] NEVER = {1024, 1025, 2047, -1, -1024, MIN, MAX};

    public static void main(String[] args) throws ReflectiveOperationException {
        new EdgesOfChoicesTest().runAll();
    }

    /** A call with a choice in place of % is BAD with a bit of no place: with no places, with two, with all ten. */
    private void badBits(String call) {
        villages(1);
        is(BAD, each(call, 1, 2, 512));
        is(BAD, each(call, NEVER));
        make("place 0 OVEN 0", "place 0 OVEN 0");
        is(BAD, each(call, 4, 5, 7, 512));
        is(BAD, each(call, NEVER));
        for (int p = 2; p < 10; p++) {
            make("place 0 OVEN 0");
        }
        is(BAD, each(call, NEVER));
        make("undo");
        is(BAD, each(call, 512, 1023));
    }

    /** A call with a place in place of % is BAD with no such place: with no places, with one, with all ten. */
    private void badPlace(String call) {
        villages(1);
        is(BAD, each(call, 0, -1, MIN, MAX));
        make("place 0 OVEN 0");
        is(BAD, each(call, -1, 1, 31, 32, MIN, MAX));
        for (int p = 1; p < 10; p++) {
            make("place 0 OVEN 0");
        }
        is(BAD, each(call, -1, 10, 31, 32, 41, MIN, MAX));
        make("undo");
        is(BAD, each(call, 9));
    }

    void promise13Allowed() {
        at("Promise 13: Whether a CHOICE is ALLOWED (1, 0).");
        is(1, "allowed 0");
        villages(1);
        tenPlaces(0, "OVEN", 0);
        is(1, "allowed 0", "allowed 1", "allowed 512", "allowed 7", "allowed 896");
        is(0, "allowed 15", "allowed 960", "allowed 1023");
        make("number 10");
        is(1, "allowed 1023");
        make("number 0");
        is(1, "allowed 0");
        is(0, "allowed 1", "allowed 1023");
    }

    void promise13Bad() {
        at("Promise 13: BAD: also bits of no PLACES.");
        badBits("allowed %");
    }

    void promise14AllowedOrNot() {
        at("Promise 14: The COST of a CHOICE (ALLOWED or not).");
        villages(3);
        make("place 0 OVEN 5", "place 0 OVEN 6", "place 0 SHRINE 7", "number 0");
        is(0, "allowed 3", "allowed 0");
        is(5, "cost 1", "cost 5");
        is(11, "cost 3", "cost 7");
        is(0, "cost 4");
    }

    void promise14Dearest() {
        at("Promise 14: The COST of a CHOICE");
        twelve(1000, 1000);
        tenPlaces(0, "OVEN", 100000);
        is(66000000 + 100000, "cost 1", "cost 512");
        is(66000000 + 1000000, "cost 1023");
        is(NONE, "cost 0");
    }

    void promise14Bad() {
        at("Promise 14: BAD");
        badBits("cost %");
    }

    void promise14None() {
        at("Promise 14: NONE.");
        is(0, "cost 0");
        villages(0, 0);
        is(0, "cost 0");
        make("place 0 OVEN 5");
        is(5, "cost 1");
        make("loaves 0 1");
        is(NONE, "cost 0");
        is(5, "cost 1");
        make("loaves 1 1");
        is(NONE, "cost 0", "cost 1");
        again();
        twelve(1, 1);
        make("place 0 WEAK 0", "reach 0 11");
        is(66, "cost 1");
        make("reach 0 10");
        is(NONE, "cost 1");
        make("loaves 11 0");
        is(55, "cost 1");
    }

    void promise15WithLoavesOrNot() {
        at("Promise 15: The PLACE of a CHOICE by which a VILLAGE (with LOAVES or not) is SERVED.");
        villages(0, 1000);
        make("place 0 OVEN 0", "road 0 1 1000");
        is(0, "served 1 0", "served 1 1");
        again();
        twelve(0, 1);
        tenPlaces(11, "OVEN", 0);
        is(9, "served 512 0", "served 512 11");
        is(0, "served 1023 11");
    }

    void promise15Bad() {
        at("Promise 15: BAD");
        badBits("served % 0");
        again();
        is(BAD, each("served 0 %", 0, -1, MIN, MAX));
        villages(1);
        make("place 0 OVEN 0");
        is(BAD, each("served 1 %", -1, 1, MIN, MAX));
        again();
        twelve(1, 1);
        is(BAD, each("served 0 %", -1, 12, MIN, MAX));
    }

    void promise15None() {
        at("Promise 15: NONE.");
        villages(0, 1);
        is(NONE, "served 0 0", "served 0 1");
        make("place 0 OVEN 0");
        is(NONE, "served 0 0", "served 1 1");
        is(0, "served 1 0");
    }

    void promise16Share() {
        at("Promise 16: Of a PLACE in a CHOICE: 0 how many VILLAGES with LOAVES it serves, 1 how many LOAVES,"
            + " 2 the greatest carried WAY of these (0: none).");
        villages(0, 0);
        make("road 0 1 1000", "place 0 OVEN 0", "place 1 OVEN 0");
        is(0, "share 1 0 0", "share 1 0 1", "share 1 0 2");
        make("loaves 1 1");
        is(1, "share 1 0 0", "share 1 0 1");
        is(1000, "share 1 0 2");
        is(0, "share 3 0 0", "share 3 0 1", "share 3 0 2", "share 3 1 2");
        is(1, "share 3 1 0", "share 3 1 1");
        again();
        twelve(1000, 1000);
        tenPlaces(11, "OVEN", 0);
        is(12, "share 512 9 0", "share 1023 0 0");
        is(12000, "share 512 9 1", "share 1023 0 1");
        is(11000, "share 512 9 2", "share 1023 0 2");
        is(0, "share 1023 9 0", "share 1023 9 1", "share 1023 9 2");
        make("loaves 0 0");
        is(11, "share 512 9 0");
        is(11000, "share 512 9 1");
        is(10000, "share 512 9 2");
    }

    void promise16BadChoice() {
        at("Promise 16: BAD");
        badBits("share % 0 0");
    }

    void promise16BadPlace() {
        at("Promise 16: BAD");
        badPlace("share 0 % 0");
    }

    void promise16BadWhat() {
        at("Promise 16: BAD");
        villages(1);
        make("place 0 OVEN 0");
        is(BAD, each("share 1 0 %", -1, 3, MIN, MAX));
        is(BAD, each("share 0 0 %", -1, 3, MIN, MAX));
    }

    void promise16State() {
        at("Promise 16: STATE: it is not in it.");
        villages(1);
        tenPlaces(0, "OVEN", 0);
        is(STATE, "share 0 0 0", "share 0 9 2", "share 1022 0 1", "share 511 9 0", "share 2 0 0", "share 2 2 0");
        is(1, "share 2 1 0");
    }

    void promise17Least() {
        at("Promise 17: The least COST of all ALLOWED CHOICES.");
        is(0, "least");
        villages(1000);
        tenPlaces(0, "OVEN", 100000);
        is(100000, "least");
        make("undo", "place 0 OVEN 99999");
        is(99999, "least");
        make("loaves 0 0");
        is(0, "least");
        again();
        twelve(1000, 1000);
        make("place 0 OVEN 100000");
        is(66100000, "least");
    }

    void promise17None() {
        at("Promise 17: NONE: none has a COST.");
        villages(1);
        is(NONE, "least");
        make("place 0 OVEN 5");
        is(5, "least");
        make("number 0");
        is(NONE, "least");
        make("loaves 0 0");
        is(0, "least");
        make("place 0 SHRINE 0");
        is(NONE, "least");
        make("number 1");
        is(0, "least");
    }

    void promise18LeastNumber() {
        at("Promise 18: The ALLOWED CHOICE of that COST, the least number of several.");
        is(0, "best");
        villages(1);
        tenPlaces(0, "OVEN", 5);
        is(1, "best");
        make("loaves 0 0");
        is(0, "best");
        again();
        villages(1);
        for (int p = 0; p < 9; p++) {
            make("place 0 OVEN 5");
        }
        make("place 0 OVEN 4");
        is(512, "best");
    }

    void promise18None() {
        at("Promise 18: NONE.");
        villages(1);
        is(NONE, "best");
        make("place 0 OVEN 0", "number 0");
        is(NONE, "best");
        make("number 1");
        is(1, "best");
    }

    void promise19Many() {
        at("Promise 19: How many ALLOWED CHOICES have that COST (0: none).");
        is(1, "many");
        villages(0);
        is(1, "many");
        tenPlaces(0, "OLD", 100000);
        is(1 + 10 + 45 + 120, "many");
        make("number 20");
        is(1024, "many");
        make("loaves 0 1");
        is(1023, "many");
        make("number 1");
        is(10, "many");
        make("number 0");
        is(0, "many");
        make("loaves 0 0");
        is(1, "many");
    }

    void promise20InAllSomeNone() {
        at("Promise 20: Whether a PLACE is 1 in all, 0 in some, -5 in none of these.");
        villages(1);
        make("place 0 OVEN 5", "place 0 OVEN 5", "place 0 OVEN 6");
        is(0, "every 0", "every 1");
        isBelow0(-5, "every 2");
        make("place 0 OLD 0");
        is(1, "every 3");
        isBelow0(-5, "every 0");
        again();
        villages(0);
        tenPlaces(0, "SHRINE", 0);
        make("number 10");
        is(1, "every 0", "every 9");
        again();
        villages(0);
        tenPlaces(0, "OVEN", 1);
        isBelow0(-5, "every 0");
        isBelow0(-5, "every 9");
    }

    void promise20Bad() {
        at("Promise 20: BAD");
        badPlace("every %");
    }

    void promise20None() {
        at("Promise 20: NONE: there is none such.");
        villages(1);
        tenPlaces(0, "OVEN", 0);
        is(0, "every 0", "every 9");
        make("number 0");
        is(NONE, "every 0", "every 9");
        is(BAD, "every 10", "every -1");
    }

    void promise21But() {
        at("Promise 21: The ALLOWED CHOICE of least COST but a told one, the least number of several.");
        villages(1);
        make("place 0 OVEN 5", "place 0 OVEN 5", "place 0 OVEN 6", "number 1");
        is(1, "second 0", "second 2", "second 4", "second 7");
        is(2, "second 1");
        make("number 3");
        is(2, "second 1");
        is(1, "second 2", "second 3");
        make("loaves 0 0");
        is(0, "second 1", "second 7");
        is(1, "second 0");
        again();
        villages(1);
        tenPlaces(0, "OVEN", 5);
        make("number 1");
        is(2, "second 1");
        is(1, "second 512", "second 1023", "second 0");
        again();
        villages(1);
        for (int build = 9; build >= 0; build--) {
            make("place 0 OVEN " + build);
        }
        make("number 1");
        is(256, "second 512");
        is(512, "second 256", "second 1023");
    }

    /** The best one comes in between: the one ahead of it is the next, not the one behind. */
    void promise21NextIsAhead() {
        at("Promise 21: The ALLOWED CHOICE of least COST but a told one");
        villages(1);
        make("place 0 OVEN 7", "place 0 OVEN 5", "place 0 OVEN 9", "number 1");
        is(1, "second 2");
        is(2, "second 1", "second 4", "second 0");
        make("place 0 OVEN 6");
        is(8, "second 2");
        make("place 0 OVEN 6");
        is(8, "second 2");
    }

    void promise21Bad() {
        at("Promise 21: BAD: bits of no PLACES");
        badBits("second %");
    }

    void promise21None() {
        at("Promise 21: NONE.");
        is(NONE, "second 0");
        villages(1);
        is(NONE, "second 0");
        make("place 0 OVEN 0");
        is(1, "second 0");
        is(NONE, "second 1");
        make("number 0");
        is(NONE, "second 0", "second 1");
        make("loaves 0 0");
        is(NONE, "second 0");
        is(0, "second 1");
    }

    void promise22Lose() {
        at("Promise 22: The least COST, if the oven of a PLACE may not be in a CHOICE.");
        villages(1);
        make("place 0 OVEN 5", "place 0 OVEN 100000");
        is(100000, "lose 0");
        is(5, "lose 1");
        make("loaves 0 0");
        is(0, "lose 0", "lose 1");
        again();
        villages(1);
        for (int build = 9; build >= 0; build--) {
            make("place 0 OVEN " + build);
        }
        is(0, "lose 0", "lose 8");
        is(1, "lose 9");
    }

    void promise22Bad() {
        at("Promise 22: BAD");
        badPlace("lose %");
    }

    void promise22State() {
        at("Promise 22: STATE: it is a SHRINE");
        villages(1, 1);
        make("place 0 SHRINE 0", "place 0 OLD 0");
        is(STATE, "lose 0");
        is(NONE, "lose 1");
        make("loaves 1 0");
        is(STATE, "lose 0");
        is(0, "lose 1");
        make("number 0");
        is(STATE, "lose 0");
        is(NONE, "lose 1");
    }

    void promise22None() {
        at("Promise 22: NONE.");
        villages(1);
        make("place 0 OVEN 0");
        is(NONE, "lose 0");
        make("place 0 OVEN 0");
        is(0, "lose 0", "lose 1");
        make("number 0");
        is(NONE, "lose 0", "lose 1");
    }

    void promise23Greatest() {
        at("Promise 23: The PLACE by whose loss the least COST becomes greatest (none at all: greater than any),"
            + " the least PLACE of several.");
        villages(1, 0);
        make("place 0 OVEN 0");
        is(0, "worst");
        make("place 0 OVEN 100000");
        is(0, "worst");
        make("place 1 OVEN 0", "loaves 1 1");
        is(2, "worst");
        make("place 1 OVEN 100000");
        is(0, "worst");
        again();
        villages(1);
        tenPlaces(0, "OVEN", 5);
        is(0, "worst");
        again();
        villages(1);
        for (int build = 9; build >= 0; build--) {
            make("place 0 OVEN " + build);
        }
        is(9, "worst");
        make("loaves 0 0");
        is(0, "worst");
    }

    void promise23None() {
        at("Promise 23: NONE: there is no PLACE that is no SHRINE, or no least COST.");
        is(NONE, "worst");
        villages(1);
        is(NONE, "worst");
        make("place 0 SHRINE 0");
        is(NONE, "worst");
        make("place 0 OVEN 0");
        is(1, "worst");
        make("number 0");
        is(NONE, "worst");
        again();
        villages(0);
        is(NONE, "worst");
        tenPlaces(0, "SHRINE", 0);
        make("number 20");
        is(NONE, "worst");
        make("undo", "undo", "place 0 OLD 0", "number 20");
        is(9, "worst");
    }

    void promise24Farthest() {
        at("Promise 24: Of all ALLOWED CHOICES by which all VILLAGES with LOAVES are SERVED,"
            + " the least that the greatest carried WAY of these can be.");
        is(0, "farthest");
        twelve(0, 1000);
        is(0, "farthest");
        make("place 0 OVEN 100000", "loaves 0 1");
        is(0, "farthest");
        make("loaves 11 1");
        is(11000, "farthest");
        make("place 11 BIG 0");
        is(0, "farthest");
        make("number 2");
        is(5500, "farthest");
        make("number 1");
        is(11000, "farthest");
    }

    void promise24None() {
        at("Promise 24: NONE: there is no such CHOICE.");
        villages(1);
        is(NONE, "farthest");
        make("place 0 WEAK 0", "village 0", "road 0 1 21");
        is(0, "farthest");
        make("loaves 1 1");
        is(NONE, "farthest");
        make("road 0 1 20");
        is(20, "farthest");
        make("number 0");
        is(NONE, "farthest");
        again();
        villages(0);
        make("place 0 SHRINE 0", "number 0");
        is(NONE, "farthest");
    }

    void promise25Nearest() {
        at("Promise 25: The CHOICE of that, the least number of several.");
        is(0, "nearest");
        villages(0);
        tenPlaces(0, "OVEN", 100000);
        is(0, "nearest");
        make("loaves 0 1");
        is(1, "nearest");
        again();
        villages(1, 0);
        make("road 0 1 1");
        for (int p = 0; p < 9; p++) {
            make("place 1 OLD 0");
        }
        make("place 0 OVEN 100000");
        is(512, "nearest");
        make("number 1");
        is(512, "nearest");
    }

    void promise25None() {
        at("Promise 25: NONE.");
        villages(1);
        is(NONE, "nearest");
        make("place 0 OVEN 0");
        is(1, "nearest");
        make("number 0");
        is(NONE, "nearest");
    }
}
