import java.util.Random;

/** Runs of calls with fixed seeds: the class must answer as the plain model does. */
public final class ModelTest {
    /** With the calls that build the valley not more than 512 on one object: later answers are free. */
    private static final int RUNS = 700, CALLS = 400;
    /** Each a call and its arguments; a letter stands for a way to choose a number. */
    private static final String[] BUILDING = {
        "village l", "loaves v l", "road v v d", "road v v d", "place v k c", "place v k c", "reach p r", "number m",
        "map a b z", "lay a i x", "lay a i x", "lay a i x", "draw a b t", "undo"};
    private static final String[] ASKING = {
        "apart v v", "way v v s", "allowed o", "cost o", "served o v", "share o p w", "least", "best", "many",
        "every p", "second o", "lose p", "worst", "farthest", "nearest", "added", "changed o", "moves", "price v e",
        "priced v", "gives p v", "worth p", "bound", "climb t u", "highest", "count q", "undo"};

    private final Random random;
    private final PlainValley model = new PlainValley();
    private final BreadOvens ovens = new BreadOvens();
    private final Check check;
    private final int run;
    private final int mood;

    private ModelTest(int run, Check check) {
        this.run = run;
        this.check = check;
        this.random = new Random(run);
        this.mood = run % 4;
    }

    public static void main(String[] args) {
        Check check = new Check();
        for (int run = 0; run < RUNS; run++) {
            new ModelTest(run, check).play();
        }
        check.finish();
    }

    private void play() {
        int villages = 1 + random.nextInt(12);
        for (int i = 0; i < villages; i++) {
            ask("village l");
        }
        for (int i = 0; i < villages * 2; i++) {
            ask("road v v d");
        }
        int places = random.nextInt(11);
        for (int i = 0; i < places; i++) {
            ask("place v k c");
        }
        for (int i = 0; i < CALLS; i++) {
            String[] calls = random.nextInt(4) == 0 ? BUILDING : ASKING;
            ask(calls[random.nextInt(calls.length)]);
        }
    }

    private void ask(String call) {
        String[] words = call.split(" ");
        long[] numbers = new long[words.length - 1];
        StringBuilder text = new StringBuilder("run " + run + ": " + words[0] + "(");
        for (int i = 0; i < numbers.length; i++) {
            numbers[i] = choose(words[i + 1].charAt(0));
            text.append(i > 0 ? ", " : "").append(numbers[i]);
        }
        Call real = Call.of(text.append(")").toString(), words[0], numbers);
        check.due(real.text(), real.on(ovens), model.call(words[0], numbers));
    }

    private int upTo(int most) {
        return random.nextInt(most + 1);
    }

    /** Now and then a number from far outside, so that each test for a wrong number is met. */
    private long choose(char letter) {
        if (letter != 'x' && random.nextInt(60) == 0) {
            int[] odd = {-1, -2, 1 << 10, 1 << 31, Integer.MAX_VALUE, 12, 10, 4, 61, 1001, 100001, 12001, 21, 100000001};
            return odd[random.nextInt(odd.length)];
        }
        int villages = (int) model.call("count", new long[] {0});
        int places = (int) model.call("count", new long[] {1});
        switch (letter) {
            case 'v': return upTo(Math.max(0, villages - 1));
            case 'p': return upTo(Math.max(0, places - 1));
            case 'o': return random.nextInt(1 << places);
            case 'l': return random.nextInt(4) == 0 ? 0 : mood == 0 ? upTo(1000) : upTo(5);
            case 'd': return random.nextInt(6) == 0 ? 0 : mood == 0 ? upTo(1000) : upTo(mood == 1 ? 3 : 25);
            case 'k': return random.nextInt(5) == 0 ? 3 * (upTo(4) / 4) : random.nextInt(3) == 0 ? 4 : upTo(2);
            case 'c': return mood == 0 ? upTo(100000) : upTo(mood == 1 ? 3 : 40);
            case 'r': return random.nextInt(8) == 0 ? upTo(12000) : upTo(40);
            case 'm': return random.nextInt(3) == 0 ? upTo(20) : upTo(6);
            default: return chooseMore(letter);
        }
    }

    private long chooseMore(char letter) {
        switch (letter) {
            case 'a': return upTo(mood == 3 ? 0 : 2);
            case 'b': return mood == 3 ? random.nextInt(12) == 0 ? 0 : 2 : upTo(2);
            case 'z': return random.nextInt(10) == 0 ? upTo(70) - 5 : upTo(9);
            case 'i': return upTo(10) - 1;
            case 'x': return random.nextInt(12) == 0 ? random.nextLong() : random.nextInt(12) == 0 ? 1L << 32 : upTo(6);
            case 't': return random.nextInt(12) == 0 ? upTo(100) : upTo(3);
            case 's': return upTo(5);
            case 'w': return upTo(2);
            case 'q': return upTo(5);
            case 'u': return random.nextInt(8) == 0 ? upTo(100000) : 1 + upTo(mood == 0 ? 20000 : 20);
            case 'e': return random.nextInt(8) == 0 ? 100000000 - upTo(20) : upTo(mood == 0 ? 1000000 : 100);
            default: throw new IllegalArgumentException(String.valueOf(letter));
        }
    }
}
