/** Compares answers with those that are due, and ends the program with 1 if one was not. */
final class Check {
    private int wrong = 0;
    private int all = 0;

    void due(String call, long got, long want) {
        all++;
        if (got != want) {
            wrong++;
            if (wrong <= 50) {
                System.out.println(call + " answered " + got + ", due is " + want);
            }
        }
    }

    int count() {
        return all;
    }

    void finish() {
        System.out.println(all + " answers, " + wrong + " of them wrong");
        if (wrong != 0 || all == 0) {
            System.exit(1);
        }
    }
}
