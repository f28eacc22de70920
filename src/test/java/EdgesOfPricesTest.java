/** The edges of promises 29 to 35: prices, what places give and are worth, the bound, the climb. */
public final class EdgesOfPricesTest extends Edges {
    public static void main(String[] args) throws ReflectiveOperationException {
        new EdgesOfPricesTest().runAll();
    }

    void promise29Price() {
        at("Promise 29: A VILLAGE's PRICE (0 to 100000000): 1. BAD.");
        villages(1);
        is(BAD, each("price 0 %", -1, 100000001, MIN, MAX));
        is(1, "price 0 100000000");
        is(100000000, "priced 0");
        is(BAD, each("price 0 %", -1, 100000001, MIN, MAX));
        is(1, "price 0 100000000", "price 0 0", "price 0 0");
        is(0, "priced 0");
    }

    void promise29Village() {
        at("Promise 29: A VILLAGE's PRICE");
        is(BAD, each("price % 1", 0, -1, MIN, MAX));
        villages(1);
        is(BAD, each("price % 1", -1, 1, MIN, MAX));
        is(1, "price 0 1");
        again();
        twelve(1, 1);
        is(1, "price 0 7", "price 11 8");
        is(BAD, each("price % 1", -1, 12, MIN, MAX));
        is(7, "priced 0");
        is(8, "priced 11");
        is(0, "priced 1", "priced 10");
    }

    void promise30NoneSuch() {
        at("Promise 30: The PRICE of a VILLAGE. 0 also: there is none such.");
        is(0, each("priced %", 0, -1, 11, 12, MIN, MAX));
        villages(1);
        make("price 0 5");
        is(5, "priced 0");
        is(0, each("priced %", 1, -1, 12, MIN, MAX));
        again();
        twelve(1, 1);
        make("price 11 100000000");
        is(100000000, "priced 11");
        is(0, each("priced %", 12, -1, MIN, MAX));
        make("climb 1 100000");
        is(100000, "priced 0", "priced 10");
        is(0, "priced 12", "priced -1");
    }

    void promise31Gives() {
        at("Promise 31: What a PLACE GIVES for a VILLAGE (0: nothing).");
        villages(1000, 1);
        make("road 0 1 1000", "place 1 OVEN 100000", "price 0 1000000", "price 1 100000000");
        is(0, "gives 0 0");
        is(100000000, "gives 0 1");
        make("price 0 1000001");
        is(1, "gives 0 0");
        make("price 0 0", "price 1 0");
        is(0, "gives 0 0", "gives 0 1");
        again();
        twelve(1000, 1000);
        tenPlaces(0, "OVEN", 0);
        make("price 11 11000000");
        is(0, "gives 9 11");
        make("price 11 11000001");
        is(1, "gives 9 11", "gives 0 11");
    }

    void promise31Bad() {
        at("Promise 31: BAD.");
        is(BAD, "gives 0 0", "gives -1 -1");
        villages(1);
        is(BAD, each("gives % 0", 0, -1, MIN, MAX));
        make("place 0 OVEN 0");
        is(BAD, each("gives % 0", -1, 1, MIN, MAX));
        is(BAD, each("gives 0 %", -1, 1, MIN, MAX));
        again();
        twelve(1, 1);
        tenPlaces(0, "OVEN", 0);
        is(0, "gives 9 11");
        is(BAD, each("gives % 11", -1, 10, MIN, MAX));
        is(BAD, each("gives 9 %", -1, 12, MIN, MAX));
    }

    void promise32NoneSuch() {
        at("Promise 32: The WORTH of a PLACE. 0 also: there is none such.");
        is(0, each("worth %", 0, -1, 9, 10, MIN, MAX));
        villages(1);
        make("price 0 5", "place 0 OVEN 0");
        is(5, "worth 0");
        is(0, each("worth %", 1, -1, 10, MIN, MAX));
        make("undo");
        is(0, "worth 0");
        again();
        twelve(1, 1);
        tenPlaces(0, "OVEN", 0);
        make("price 0 5");
        is(5, "worth 0", "worth 9");
        is(0, each("worth %", 10, -1, MIN, MAX));
    }

    void promise32Greatest() {
        at("Promise 32: The WORTH of a PLACE.");
        twelve(1, 1);
        make("place 0 OVEN 100000", "place 0 OLD 100000", "place 0 SHRINE 100000");
        for (int v = 0; v < 12; v++) {
            make("price " + v + " 100000000");
        }
        is(1200000000 - 66 - 100000, "worth 0");
        is(1200000000 - 66, "worth 1", "worth 2");
    }

    void promise33Bound() {
        at("Promise 33: THE BOUND.");
        is(0, "bound");
        villages(1, 0);
        make("price 0 100000000", "price 1 100000000");
        is(100000000, "bound");
        make("place 0 OVEN 100000");
        is(100000, "bound");
        make("number 0");
        is(100000000, "bound");
        again();
        twelve(1, 1);
        for (int v = 0; v < 12; v++) {
            make("price " + v + " 100000000");
        }
        is(1200000000, "bound");
        tenPlaces(0, "OLD", 100000);
        make("number 20");
        isBelow0(1200000000L - 10 * (1200000000L - 66), "bound");
    }

    void promise33None() {
        at("Promise 33: NONE.");
        villages(1);
        tenPlaces(0, "SHRINE", 0);
        is(NONE, "bound");
        make("number 9");
        is(NONE, "bound");
        make("number 10");
        is(0, "bound");
    }

    void promise34Times() {
        at("Promise 34: n times (0 to 100)");
        villages(1);
        is(BAD, each("climb % 1", -1, 101, MIN, MAX));
        is(0, "climb 0 1", "priced 0");
        is(1, "climb 1 1", "priced 0");
        is(100, "climb 100 1");
        is(101, "priced 0");
        is(BAD, each("climb % 1", -1, 101, MIN, MAX));
        again();
        twelve(1, 1);
        is(1200, "climb 100 1");
        is(100, "priced 0", "priced 11");
    }

    void promise34Step() {
        at("Promise 34: gets a PRICE that is s (1 to 100000) more");
        villages(1);
        is(BAD, each("climb 1 %", 0, -1, 100001, MIN, MAX));
        is(BAD, "climb 0 0", "climb 0 100001", "climb 101 100001");
        is(1, "climb 1 1", "priced 0", "climb 1 100000");
        is(100001, "priced 0");
        is(100, "climb 100 100000");
        is(10100001, "priced 0");
        is(BAD, each("climb 1 %", 0, -1, 100001, MIN, MAX));
    }

    void promise34WithLoaves() {
        at("Promise 34: each VILLAGE with LOAVES for which none of its PLACES GIVES");
        villages(0, 1);
        is(1, "climb 1 5");
        is(0, "priced 0");
        is(5, "priced 1");
        make("place 1 OVEN 4");
        is(0, "climb 1 5");
        make("price 1 0");
        is(1, "climb 1 5");
        is(5, "priced 1");
        again();
        villages(0, 3);
        make("road 0 1 7", "place 0 SHRINE 0", "price 1 21");
        is(1, "climb 1 1");
        is(22, "priced 1");
        is(0, "climb 1 1", "climb 100 1");
        is(22, "priced 1");
    }

    void promise34TwoOrMore() {
        at("Promise 34: for which two or more GIVE s less");
        villages(1);
        make("place 0 OLD 0", "price 0 5");
        is(0, "climb 1 1");
        make("place 0 OLD 0");
        is(1, "climb 1 1");
        is(4, "priced 0");
        make("place 0 OLD 0");
        is(1, "climb 1 1");
        is(3, "priced 0");
        again();
        twelve(1, 1);
        tenPlaces(0, "OLD", 0);
        make("number 10", "price 0 5", "price 11 11");
        is(12, "climb 1 1");
        is(4, "priced 0");
        is(12, "priced 11");
        is(1, "priced 1");
        is(12, "climb 1 1");
        is(3, "priced 0");
        is(11, "priced 11");
        is(2, "priced 1");
    }

    /** One oven at most: of like worths place 0 alone is the top, and place 1 does not count though it gives. */
    void promise34OfItsPlaces() {
        at("Promise 34: of the ALLOWED CHOICE of the greatest sum of WORTHS (the least number of several)");
        villages(1, 1);
        make("place 0 OLD 0", "place 1 OLD 0", "number 1", "price 0 5", "price 1 5");
        is(1, "climb 1 2");
        is(5, "priced 0");
        is(7, "priced 1");
        is(1, "climb 1 2");
        is(7, "priced 0", "priced 1");
        make("number 2");
        is(0, "climb 100 2");
        make("number 0");
        is(2, "climb 1 1");
        is(8, "priced 0", "priced 1");
    }

    void promise34AtLeast() {
        at("Promise 34: (0 at least; 100000000 at most)");
        villages(1);
        make("place 0 OLD 0", "place 0 OLD 0", "price 0 6");
        is(1, "climb 1 5", "priced 0");
        make("price 0 5");
        is(1, "climb 1 5");
        is(0, "priced 0");
        make("price 0 4");
        is(1, "climb 1 5");
        is(0, "priced 0");
        make("price 0 100000000");
        is(1, "climb 1 100000");
        is(99900000, "priced 0");
    }

    void promise34AtMost() {
        at("Promise 34: (0 at least; 100000000 at most)");
        villages(1, 1);
        make("price 0 99999994", "price 1 99999995");
        is(2, "climb 1 5");
        is(99999999, "priced 0");
        is(100000000, "priced 1");
        is(1, "climb 1 5");
        is(100000000, "priced 0", "priced 1");
        is(0, "climb 1 5", "climb 100 100000");
        is(100000000, "priced 0", "priced 1");
        make("price 0 99999999");
        is(1, "climb 100 100000");
        is(100000000, "priced 0");
    }

    void promise34HowOften() {
        at("Promise 34: how often a PRICE was changed");
        villages(1, 1, 0);
        make("price 0 99999998");
        is(5, "climb 3 1");
        is(100000000, "priced 0");
        is(3, "priced 1", "climb 3 1");
        make("place 1 OLD 0");
        is(0, "climb 3 1");
        make("place 1 OLD 0");
        is(6, "priced 1", "climb 6 1");
        is(0, "priced 1");
        is(1, "climb 1 1", "priced 1", "climb 1 1");
        is(0, "priced 1");
        is(100, "climb 100 1");
    }

    void promise34State() {
        at("Promise 34: BAD; STATE: there is no ALLOWED CHOICE.");
        villages(1);
        make("place 0 SHRINE 0", "number 0");
        is(STATE, "climb 0 1", "climb 1 1", "climb 100 100000");
        is(BAD, "climb -1 1", "climb 101 1", "climb 1 0", "climb 1 100001");
        is(0, "priced 0");
        make("number 1");
        is(1, "climb 1 1");
    }

    void promise35Before() {
        at("Promise 35: (0 before)");
        is(0, "highest");
        villages(1);
        make("price 0 7");
        is(7, "bound");
        is(0, "highest");
        is(BAD, "climb 101 1", "climb 1 0");
        is(0, "highest");
        make("place 0 SHRINE 0", "number 0");
        is(STATE, "climb 1 1");
        is(0, "highest");
    }

    void promise35Ahead() {
        at("Promise 35: The greatest BOUND that was there ahead of, behind each time of the latest climb()");
        villages(1);
        make("price 0 7", "climb 0 1");
        is(7, "highest");
        make("climb 1 5");
        is(12, "highest");
        make("climb 100 1");
        is(112, "highest");
        again();
        villages(1);
        make("place 0 OLD 0", "place 0 OLD 0", "price 0 6");
        isBelow0(-6, "bound");
        make("climb 0 1");
        isBelow0(-6, "highest");
        make("climb 1 2");
        isBelow0(-4, "highest");
        make("climb 2 2");
        is(0, "bound", "highest");
    }

    /** With a price of 3, 6, 9 the bound is 3, 6, 9 less twice 3: the greatest one is ahead, in between or behind. */
    void promise35InBetween() {
        at("Promise 35: ahead of, behind each time");
        villages(1);
        make("place 0 OVEN 6", "place 0 OVEN 6", "price 0 3", "climb 1 3");
        is(6, "highest", "bound");
        make("price 0 3", "climb 2 3");
        is(6, "highest");
        is(3, "bound");
        make("price 0 6", "climb 1 3");
        is(6, "highest");
        is(3, "bound");
        make("climb 1 3");
        is(6, "highest", "bound", "priced 0");
    }

    void promise35NotRefused() {
        at("Promise 35: the latest climb() that was not refused");
        villages(1);
        make("price 0 9", "climb 1 1");
        is(10, "highest");
        make("price 0 3");
        is(BAD, "climb -1 1", "climb 101 1", "climb 1 0", "climb 1 100001");
        is(10, "highest");
        make("place 0 SHRINE 0", "number 0");
        is(STATE, "climb 1 1");
        is(10, "highest");
        make("undo", "undo");
        is(10, "highest");
        make("climb 0 1");
        is(3, "highest");
    }
}
