import java.util.ArrayList;
import java.util.List;

/**
 * What a valley answers to very many questions. Two runs of calls that leave the same valley have the same portrait.
 * Some questions change the valley, and an object is used for 512 calls at most: so each chapter has a new object.
 */
final class Portrait {
    private static final int CHAPTERS = 6, MOST_CALLS = 512;

    private final List<Long> answers = new ArrayList<>();
    private BreadOvens x = new BreadOvens();
    private int villages;
    private int places;

    static List<Long> of(List<Call> calls) {
        Portrait portrait = new Portrait();
        for (int chapter = 0; chapter < CHAPTERS; chapter++) {
            int start = portrait.answers.size();
            portrait.build(calls);
            portrait.write(chapter);
            int asked = portrait.answers.size() - start;
            if (calls.size() + asked > MOST_CALLS) {
                throw new IllegalStateException(calls.size() + " calls and " + asked + " of chapter " + chapter);
            }
        }
        return portrait.answers;
    }

    private void build(List<Call> calls) {
        x = new BreadOvens();
        for (Call call : calls) {
            call.on(x);
        }
        villages = x.count(0);
        places = x.count(1);
        note(villages);
        note(places);
    }

    private void write(int chapter) {
        switch (chapter) {
            case 0 -> ways();
            case 1 -> choices();
            case 2 -> prices();
            case 3 -> drawings();
            case 4 -> cells();
            default -> past();
        }
    }

    private void note(long answer) {
        answers.add(answer);
    }

    private void counts() {
        for (int what = 0; what < 6; what++) {
            note(x.count(what));
        }
    }

    private void ways() {
        counts();
        note(x.moves());
        note(x.highest());
        for (int a = 0; a < villages; a++) {
            for (int b = 0; b < villages; b++) {
                note(a < b ? x.apart(a, b) : x.way(a, b, 1));
            }
        }
    }

    private void choices() {
        int all = (1 << places) - 1;
        for (int v = 0; v < villages; v++) {
            note(x.served(all, v));
        }
        for (int p = 0; p < places; p++) {
            note(x.cost(1 << p));
            note(x.cost(all - (1 << p)));
            note(x.allowed(1 << p));
            note(x.share(1 << p, p, 0));
            note(x.share(1 << p, p, 2));
            note(x.every(p));
            note(x.lose(p));
        }
        note(x.cost(all));
        note(x.least());
        note(x.best());
        note(x.many());
        note(x.second(0));
        note(x.worst());
        note(x.farthest());
        note(x.nearest());
        note(x.added());
        note(x.moves());
        note(x.changed(all));
        note(x.moves());
    }

    private void prices() {
        for (int v = 0; v < villages; v++) {
            note(x.priced(v));
            for (int p = 0; p < places; p++) {
                note(x.gives(p, v));
            }
        }
        for (int p = 0; p < places; p++) {
            note(x.worth(p));
        }
        note(x.bound());
        note(x.climb(3, 7));
        note(x.highest());
        for (int v = 0; v < villages; v++) {
            note(x.priced(v));
        }
    }

    private void drawings() {
        for (int k = 0; k < 4; k++) {
            for (int lane = 0; lane < 3; lane++) {
                note(x.draw(k, lane, 0));
                note(x.draw(k, lane, 1));
                note(x.draw(k, lane, 2));
                note(x.draw(k, lane, 20));
            }
        }
        for (int a = 0; a < villages; a++) {
            for (int b = 0; b < a; b++) {
                note(x.road(a, b, 0));
            }
        }
    }

    /** How many cells each map has. */
    private void cells() {
        for (int k = 0; k < 4; k++) {
            for (int i = 0; i <= 60; i++) {
                note(x.lay(k, i, 0));
            }
        }
    }

    private void past() {
        for (int i = 0; i <= 10; i++) {
            note(x.undo());
            counts();
            int standing = x.count(1);
            note(standing);
            for (int p = 0; p < standing; p++) {
                note(x.cost(1 << p));
            }
        }
        int v = x.village(1);
        note(v);
        note(x.priced(v));
    }
}
