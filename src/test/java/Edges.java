import java.lang.reflect.Method;
import java.lang.reflect.Modifier;
import java.util.ArrayList;
import java.util.Arrays;
import java.util.Comparator;
import java.util.List;

/**
 * Tests of single sentences of the document: each method that is not private, of a class under this one, is one.
 * Every answer is compared, and of every refused call it is also tested that it changed nothing.
 */
abstract class Edges {
    static final int BAD = -1, STATE = -2, FULL = -3, NONE = -4;
    static final int NULL = -11, INDEX = -12, CAST = -13, SIZE = -14, ROAD_REFUSED = -21;
    static final int MIN = Integer.MIN_VALUE, MAX = Integer.MAX_VALUE;

    private final Check check = new Check();
    private BreadOvens x = new BreadOvens();
    private final List<Call> made = new ArrayList<>();
    private List<Long> portrait = null;
    private String sentence = "";

    /** By their names, so that the order does not hang on the machine; a test that compares nothing is an error. */
    final void runAll() throws ReflectiveOperationException {
        Method[] tests = getClass().getDeclaredMethods();
        Arrays.sort(tests, Comparator.comparing(Method::getName));
        for (Method test : tests) {
            if (isTest(test)) {
                int before = check.count();
                test.invoke(this);
                check.due(test.getName() + " compares something", check.count() > before ? 1 : 0, 1);
            }
        }
        check.finish();
    }

    /** Private methods only help. */
    private static boolean isTest(Method method) {
        return !Modifier.isPrivate(method.getModifiers()) && !Modifier.isStatic(method.getModifiers());
    }

    /** A new valley, for the test of a sentence of the document. */
    final void at(String words) {
        sentence = words;
        again();
    }

    /** One more new valley for the same sentence. */
    final void again() {
        x = new BreadOvens();
        made.clear();
        portrait = null;
    }

    /** Calls that only lead to the edge: they must be taken. */
    final void make(String... calls) {
        for (String text : calls) {
            Call call = Call.of(text);
            check.due(sentence + " | " + text + " is taken", call.on(x) >= 0 ? 1 : 0, 1);
            keep(call);
        }
    }

    /** Each of these calls has this answer. */
    final void is(long want, String... calls) {
        for (String text : calls) {
            Call call = Call.of(text);
            check.due(sentence + " | " + text, call.on(x), want);
            if (isRefusal(want)) {
                leavesAllAsItWas(call);
            } else {
                keep(call);
            }
        }
    }

    /** An answer below 0 that refuses nothing: the call goes on as any other. */
    final void isBelow0(long want, String call) {
        check.due(sentence + " | " + call, Call.of(call).on(x), want);
        keep(Call.of(call));
    }

    /** The call with each of these numbers in place of its %. */
    static String[] each(String call, long... numbers) {
        String[] calls = new String[numbers.length];
        for (int i = 0; i < calls.length; i++) {
            calls[i] = call.replace("%", String.valueOf(numbers[i]));
        }
        return calls;
    }

    final void villages(int... loaves) {
        for (int n : loaves) {
            make("village " + n);
        }
    }

    /** Roads from village 0 to 1, from 1 to 2, and so on. */
    final void roads(int... lengths) {
        for (int v = 0; v < lengths.length; v++) {
            make("road " + v + " " + (v + 1) + " " + lengths[v]);
        }
    }

    /** Twelve villages with so many loaves each in a row, with roads as long as told between them. */
    final void twelve(int loaves, int length) {
        int[] all = new int[12];
        Arrays.fill(all, loaves);
        villages(all);
        int[] lengths = new int[11];
        Arrays.fill(lengths, length);
        roads(lengths);
    }

    /** Ten places of a kind, all at one village. */
    final void tenPlaces(int village, String kind, int build) {
        for (int p = 0; p < 10; p++) {
            make("place " + village + " " + kind + " " + build);
        }
    }

    private static boolean isRefusal(long answer) {
        return answer >= NONE && answer <= BAD || answer >= ROAD_REFUSED && answer <= NULL;
    }

    private void keep(Call call) {
        made.add(call);
        portrait = null;
    }

    private void leavesAllAsItWas(Call refused) {
        if (portrait == null) {
            portrait = Portrait.of(made);
        }
        made.add(refused);
        boolean like = Portrait.of(made).equals(portrait);
        made.remove(made.size() - 1);
        check.due(sentence + " | " + refused.text() + " changes nothing", like ? 1 : 0, 1);
    }
}
