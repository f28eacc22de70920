/**
 * A valley of villages in which a told number of common ovens is to be built.
 * DOC.md says what each call answers; the words of its terms are used here as they stand there.
 */
public final class BreadOvens {
    public static final int BAD = -1, STATE = -2, FULL = -3, NONE = -4;

    private static final int NULL_FAULT = -11, INDEX_FAULT = -12, CAST_FAULT = -13, SIZE_FAULT = -14;
    private static final int ROAD_REFUSED = -20;
    private static final int IN_ALL = 1, IN_SOME = 0, IN_NONE = -5;

    private static final int VILLAGES = 12, PLACES = 10, MAPS = 4, CELLS = 60, CELLS_OF_ROAD = 3, UNDOS = 10;
    private static final int CHOICES = 1 << PLACES;
    private static final int MOST_LOAVES = 1000, MOST_LENGTH = 1000, MOST_BUILD = 100000;
    private static final int MOST_REACH = 12000, MOST_NUMBER = 20;
    private static final int MOST_PRICE = 100000000, MOST_TIMES = 100, MOST_STEP = 100000;
    private static final int FIRST_NUMBER = 3, FIRST_REACH = 20;

    private static final int BIG = 1, OLD = 2, SHRINE = 3, WEAK = 4;
    private static final int NOTHING = -1, BYTES = 0, INTS = 1, LONGS = 2;

    /** Above every way, and small enough that two of them can be added. */
    private static final int NO_WAY = 1000000;
    /** Above every cost, so that one village more left hungry weighs more than any cost. */
    private static final long HUNGRY = 1L << 40;
    private static final long NO_COST = Long.MAX_VALUE;

    private final Valley valley = new Valley();
    private final Diary diary = new Diary();
    private final Chart[] charts = new Chart[MAPS];
    private final Ways ways = new Ways();
    private final Ovens ovens = new Ovens(valley);
    private final Survey survey = new Survey();
    private final Builder builder = new Builder(ovens);
    private final Purse purse = new Purse(valley, ovens);
    private boolean surveyed = false;

    public BreadOvens() {
        for (int k = 0; k < MAPS; k++) {
            charts[k] = new Chart();
        }
    }

    public int village(int loaves) {
        if (!isWithin(loaves, 0, MOST_LOAVES)) {
            return BAD;
        }
        if (valley.villages >= VILLAGES) {
            return FULL;
        }
        diary.open(valley);
        int v = valley.settle(loaves);
        keepChange();
        return v;
    }

    public int loaves(int v, int n) {
        if (!valley.hasVillage(v) || !isWithin(n, 0, MOST_LOAVES)) {
            return BAD;
        }
        int old = valley.loaves[v];
        diary.open(valley);
        valley.loaves[v] = n;
        keepChange();
        return old;
    }

    public int road(int a, int b, int length) {
        if (!valley.takesRoad(a, b, length)) {
            return BAD;
        }
        int old = valley.lengthOf(a, b);
        diary.open(valley);
        valley.pave(a, b, length);
        keepChange();
        return old;
    }

    public int place(int village, int kind, int build) {
        if (!valley.hasVillage(village) || !isWithin(kind, 0, WEAK) || !isWithin(build, 0, MOST_BUILD)) {
            return BAD;
        }
        if (valley.places >= PLACES) {
            return FULL;
        }
        diary.open(valley);
        int p = valley.stake(village, kind, build);
        keepChange();
        return p;
    }

    public int reach(int p, int n) {
        if (!valley.hasPlace(p) || !isWithin(n, 0, MOST_REACH)) {
            return BAD;
        }
        if (valley.kinds[p] != WEAK) {
            return STATE;
        }
        int old = valley.reaches[p];
        diary.open(valley);
        valley.reaches[p] = n;
        keepChange();
        return old;
    }

    public int number(int n) {
        if (!isWithin(n, 0, MOST_NUMBER)) {
            return BAD;
        }
        int old = valley.number;
        diary.open(valley);
        valley.number = n;
        keepChange();
        return old;
    }

    public int map(int k, int lane, int n) {
        if (!isMap(k) || !isLane(lane) || n > CELLS) {
            return BAD;
        }
        if (n < 0) {
            return SIZE_FAULT;
        }
        charts[k].renew(lane, n);
        return 1;
    }

    public int lay(int k, int i, long v) {
        if (!isMap(k)) {
            return BAD;
        }
        if (charts[k].lane == NOTHING) {
            return NULL_FAULT;
        }
        if (!isWithin(i, 0, charts[k].size - 1)) {
            return INDEX_FAULT;
        }
        charts[k].write(i, v);
        return 1;
    }

    public int draw(int k, int lane, int n) {
        if (!isMap(k) || !isLane(lane) || n < 0) {
            return BAD;
        }
        int refusal = refusalToDraw(charts[k], lane, n);
        if (refusal < 0) {
            return refusal;
        }
        diary.open(valley);
        paveFrom(charts[k], n);
        keepChange();
        return n;
    }

    public int apart(int a, int b) {
        if (!valley.hasVillage(a) || !valley.hasVillage(b)) {
            return BAD;
        }
        int way = ways.between(a, b);
        return way == NO_WAY ? NONE : way;
    }

    public int way(int a, int b, int i) {
        if (!valley.hasVillage(a) || !valley.hasVillage(b) || i < 0) {
            return BAD;
        }
        return ways.between(a, b) == NO_WAY ? NONE : ways.villageAt(valley, a, b, i);
    }

    public int allowed(int choice) {
        if (!ovens.isChoice(choice)) {
            return BAD;
        }
        return ovens.mayStand(choice) ? 1 : 0;
    }

    public long cost(int choice) {
        if (!ovens.isChoice(choice)) {
            return BAD;
        }
        long measure = ovens.measureOf(choice);
        return measure < HUNGRY ? measure : NONE;
    }

    public int served(int choice, int v) {
        if (!ovens.isChoice(choice) || !valley.hasVillage(v)) {
            return BAD;
        }
        return ovens.ovenFor(choice, v);
    }

    public int share(int choice, int p, int what) {
        if (!ovens.isChoice(choice) || !valley.hasPlace(p) || !isWithin(what, 0, 2)) {
            return BAD;
        }
        if (!isIn(choice, p)) {
            return STATE;
        }
        switch (what) {
            case 0: return ovens.villagesOf(choice, p);
            case 1: return ovens.loavesOf(choice, p);
            default: return ovens.farthestOf(choice, p);
        }
    }

    public long least() {
        surveyChoices();
        return survey.howMany == 0 ? NONE : survey.leastCost;
    }

    public int best() {
        surveyChoices();
        return survey.bestChoice;
    }

    public int many() {
        surveyChoices();
        return survey.howMany;
    }

    public int every(int p) {
        if (!valley.hasPlace(p)) {
            return BAD;
        }
        surveyChoices();
        if (survey.howMany == 0) {
            return NONE;
        }
        if (isIn(survey.inAll, p)) {
            return IN_ALL;
        }
        return isIn(survey.inSome, p) ? IN_SOME : IN_NONE;
    }

    public int second(int choice) {
        if (!ovens.isChoice(choice)) {
            return BAD;
        }
        surveyChoices();
        return survey.bestChoice == choice ? survey.nextChoice : survey.bestChoice;
    }

    public long lose(int p) {
        if (!valley.hasPlace(p)) {
            return BAD;
        }
        if (valley.kinds[p] == SHRINE) {
            return STATE;
        }
        surveyChoices();
        long without = survey.costWithout[p];
        return without == NO_COST ? NONE : without;
    }

    public int worst() {
        surveyChoices();
        return survey.howMany == 0 ? NONE : survey.dearestLoss(valley);
    }

    public int farthest() {
        surveyChoices();
        return survey.nearChoice == NONE ? NONE : survey.leastFar;
    }

    public int nearest() {
        surveyChoices();
        return survey.nearChoice;
    }

    public int added() {
        if (!ovens.mayStand(ovens.shrines)) {
            return STATE;
        }
        return builder.putUp();
    }

    public int changed(int choice) {
        if (!ovens.isChoice(choice)) {
            return BAD;
        }
        if (!ovens.mayStand(choice)) {
            return STATE;
        }
        return builder.improve(choice);
    }

    public int moves() {
        return builder.steps;
    }

    public int price(int v, int n) {
        if (!valley.hasVillage(v) || !isWithin(n, 0, MOST_PRICE)) {
            return BAD;
        }
        purse.prices[v] = n;
        return 1;
    }

    public long priced(int v) {
        return valley.hasVillage(v) ? purse.prices[v] : 0;
    }

    public long gives(int p, int v) {
        if (!valley.hasPlace(p) || !valley.hasVillage(v)) {
            return BAD;
        }
        return purse.giftOf(p, v);
    }

    public long worth(int p) {
        return valley.hasPlace(p) ? purse.worthOf(p) : 0;
    }

    public long bound() {
        purse.findTop();
        return purse.topChoice == NONE ? NONE : purse.boundOfTop();
    }

    public int climb(int n, int s) {
        if (!isWithin(n, 0, MOST_TIMES) || !isWithin(s, 1, MOST_STEP)) {
            return BAD;
        }
        purse.findTop();
        if (purse.topChoice == NONE) {
            return STATE;
        }
        return purse.climbFromTop(n, s);
    }

    public long highest() {
        return purse.highestBound;
    }

    public int undo() {
        if (diary.kept == 0) {
            return NONE;
        }
        diary.turnBack(valley);
        purse.forgetFrom(valley.villages);
        workOut();
        return diary.kept;
    }

    public int count(int what) {
        switch (what) {
            case 0: return valley.villages;
            case 1: return valley.places;
            case 2: return valley.roads();
            case 3: return valley.number;
            case 4: return valley.allLoaves();
            case 5: return Integer.bitCount(ovens.shrines);
            default: return BAD;
        }
    }

    private static boolean isWithin(long n, long least, long most) {
        return n >= least && n <= most;
    }

    private static boolean isMap(int k) {
        return isWithin(k, 0, MAPS - 1);
    }

    private static boolean isLane(int lane) {
        return isWithin(lane, BYTES, LONGS);
    }

    private static boolean isIn(int choice, int p) {
        return (choice & (1 << p)) != 0;
    }

    private void keepChange() {
        if (diary.close(valley)) {
            workOut();
        }
    }

    private void workOut() {
        ways.measure(valley);
        ovens.carry(ways);
        surveyed = false;
    }

    /** The survey is the dearest work and many calls read it, so it stands until the valley changes. */
    private void surveyChoices() {
        if (!surveyed) {
            survey.take(ovens);
            surveyed = true;
        }
    }

    /** What draw() answers if it must refuse; 0 if every road can be drawn. */
    private int refusalToDraw(Chart chart, int lane, int n) {
        if (chart.lane == NOTHING) {
            return NULL_FAULT;
        }
        if (chart.lane != lane) {
            return CAST_FAULT;
        }
        for (int r = 0; r < n; r++) {
            if (!chart.holdsRoad(r)) {
                return INDEX_FAULT;
            }
            int at = r * CELLS_OF_ROAD;
            if (!valley.takesRoad(chart.cells[at], chart.cells[at + 1], chart.cells[at + 2])) {
                return ROAD_REFUSED + BAD;
            }
        }
        return 0;
    }

    /** Only behind refusalToDraw: its test makes the casts and indices safe. */
    private void paveFrom(Chart chart, int n) {
        for (int r = 0; r < n && chart.holdsRoad(r); r++) {
            int at = r * CELLS_OF_ROAD;
            valley.pave((int) chart.cells[at], (int) chart.cells[at + 1], (int) chart.cells[at + 2]);
        }
    }

    /** All that undo() can bring back, and nothing else. */
    private static final class Valley {
        int villages = 0;
        int places = 0;
        int number = FIRST_NUMBER;
        final int[] loaves = new int[VILLAGES];
        final int[] lengths = new int[VILLAGES * VILLAGES];
        final int[] homes = new int[PLACES];
        final int[] kinds = new int[PLACES];
        final int[] builds = new int[PLACES];
        final int[] reaches = new int[PLACES];

        boolean hasVillage(long v) {
            return isWithin(v, 0, villages - 1);
        }

        boolean hasPlace(int p) {
            return isWithin(p, 0, places - 1);
        }

        /** Takes longs, for then a cell that is no int is refused as any other wrong number. */
        boolean takesRoad(long a, long b, long length) {
            return hasVillage(a) && hasVillage(b) && a != b && isWithin(length, 0, MOST_LENGTH);
        }

        int settle(int bread) {
            loaves[villages] = bread;
            villages++;
            return villages - 1;
        }

        int stake(int home, int kind, int build) {
            homes[places] = home;
            kinds[places] = kind;
            builds[places] = build;
            reaches[places] = FIRST_REACH;
            places++;
            return places - 1;
        }

        int lengthOf(int a, int b) {
            return lengths[a * VILLAGES + b];
        }

        void pave(int a, int b, int length) {
            lengths[a * VILLAGES + b] = length;
            lengths[b * VILLAGES + a] = length;
        }

        int roads() {
            int sum = 0;
            for (int a = 0; a < villages; a++) {
                for (int b = 0; b < a; b++) {
                    sum += lengthOf(a, b) > 0 ? 1 : 0;
                }
            }
            return sum;
        }

        int allLoaves() {
            int sum = 0;
            for (int v = 0; v < villages; v++) {
                sum += loaves[v];
            }
            return sum;
        }

        int placesOfKind(int kind) {
            int choice = 0;
            for (int p = 0; p < places; p++) {
                choice |= kinds[p] == kind ? 1 << p : 0;
            }
            return choice;
        }

        int ovenCost(int p) {
            return kinds[p] == OLD || kinds[p] == SHRINE ? 0 : builds[p];
        }

        void copyFrom(Valley other) {
            villages = other.villages;
            places = other.places;
            number = other.number;
            System.arraycopy(other.loaves, 0, loaves, 0, VILLAGES);
            System.arraycopy(other.lengths, 0, lengths, 0, VILLAGES * VILLAGES);
            System.arraycopy(other.homes, 0, homes, 0, PLACES);
            System.arraycopy(other.kinds, 0, kinds, 0, PLACES);
            System.arraycopy(other.builds, 0, builds, 0, PLACES);
            System.arraycopy(other.reaches, 0, reaches, 0, PLACES);
        }

        /** Homes, kinds and builds never change while their place stands, so its count tells of them. */
        boolean isLike(Valley other) {
            return villages == other.villages && places == other.places && number == other.number
                && sameRows(loaves, other.loaves) && sameRows(lengths, other.lengths)
                && sameRows(reaches, other.reaches);
        }

        private static boolean sameRows(int[] one, int[] other) {
            for (int i = 0; i < one.length && i < other.length; i++) {
                if (one[i] != other[i]) {
                    return false;
                }
            }
            return one.length == other.length;
        }
    }

    /** The valley as it was ahead of each of the latest changes, in a ring. */
    private static final class Diary {
        /** One page more than can be undone, for a call that may yet turn out to change nothing. */
        private static final int PAGES = UNDOS + 1;
        final Valley[] pages = new Valley[PAGES];
        int next = 0;
        int kept = 0;

        Diary() {
            for (int i = 0; i < PAGES; i++) {
                pages[i] = new Valley();
            }
        }

        void open(Valley valley) {
            pages[next].copyFrom(valley);
        }

        /** Keeps the page that was opened if the valley is no longer like it, and tells whether. */
        boolean close(Valley valley) {
            if (pages[next].isLike(valley)) {
                return false;
            }
            next = (next + 1) % PAGES;
            kept = Math.min(kept + 1, UNDOS);
            return true;
        }

        void turnBack(Valley valley) {
            next = (next + PAGES - 1) % PAGES;
            kept--;
            valley.copyFrom(pages[next]);
        }
    }

    /** A MAP: cells of every lane are held as longs, narrowed when they are written. */
    private static final class Chart {
        int lane = NOTHING;
        int size = 0;
        final long[] cells = new long[CELLS];

        void renew(int newLane, int newSize) {
            lane = newLane;
            size = newSize;
            for (int i = 0; i < CELLS; i++) {
                cells[i] = 0;
            }
        }

        void write(int i, long v) {
            switch (lane) {
                case BYTES: cells[i] = (byte) v; break;
                case INTS: cells[i] = (int) v; break;
                default: cells[i] = v; break;
            }
        }

        /** The road's number is looked at first: its cells' numbers could be beyond an int. */
        boolean holdsRoad(int r) {
            return r < CELLS / CELLS_OF_ROAD && (r + 1) * CELLS_OF_ROAD <= size;
        }
    }

    /** The least sums of lengths between all villages. */
    private static final class Ways {
        final int[] sums = new int[VILLAGES * VILLAGES];

        int between(int a, int b) {
            return sums[a * VILLAGES + b];
        }

        void measure(Valley valley) {
            takeRoads(valley);
            for (int over = 0; over < valley.villages; over++) {
                for (int a = 0; a < valley.villages; a++) {
                    shorten(a, over, valley.villages);
                }
            }
        }

        private void takeRoads(Valley valley) {
            for (int a = 0; a < valley.villages; a++) {
                for (int b = 0; b < valley.villages; b++) {
                    int length = valley.lengthOf(a, b);
                    sums[a * VILLAGES + b] = length > 0 ? length : NO_WAY;
                }
                sums[a * VILLAGES + a] = 0;
            }
        }

        private void shorten(int a, int over, int villages) {
            int first = between(a, over);
            if (first == NO_WAY) {
                return;
            }
            for (int b = 0; b < villages; b++) {
                int sum = first + between(over, b);
                if (sum < between(a, b)) {
                    sums[a * VILLAGES + b] = sum;
                }
            }
        }

        /** No way has more villages than there are, so the steps end there even if i is far beyond. */
        int villageAt(Valley valley, int from, int to, int i) {
            int here = from;
            for (int step = 0; step < i && step < VILLAGES; step++) {
                here = here == to ? NONE : nextOf(valley, here, to);
                if (here == NONE) {
                    return NONE;
                }
            }
            return here;
        }

        private int nextOf(Valley valley, int here, int to) {
            for (int v = 0; v < valley.villages; v++) {
                int length = valley.lengthOf(here, v);
                if (length > 0 && length + between(v, to) == between(here, to)) {
                    return v;
                }
            }
            return NONE;
        }
    }

    /** What the ovens of the valley carry, and what a choice of them does. */
    private static final class Ovens {
        final Valley valley;
        final int[] carried = new int[PLACES * VILLAGES];
        int shrines = 0;
        int bigs = 0;

        Ovens(Valley valley) {
            this.valley = valley;
        }

        void carry(Ways ways) {
            shrines = valley.placesOfKind(SHRINE);
            bigs = valley.placesOfKind(BIG);
            for (int p = 0; p < valley.places; p++) {
                for (int v = 0; v < valley.villages; v++) {
                    carried[p * VILLAGES + v] = carriedOver(p, ways.between(valley.homes[p], v));
                }
            }
        }

        private int carriedOver(int p, int way) {
            if (way == NO_WAY) {
                return NO_WAY;
            }
            switch (valley.kinds[p]) {
                case BIG: return (way + 1) / 2;
                case WEAK: return way > valley.reaches[p] ? NO_WAY : way;
                default: return way;
            }
        }

        /** NO_WAY, if the place does not serve the village. */
        int carriedTo(int p, int v) {
            return carried[p * VILLAGES + v];
        }

        boolean isChoice(int choice) {
            return choice >>> valley.places == 0;
        }

        boolean mayStand(int choice) {
            return (choice & shrines) == shrines
                && Integer.bitCount(choice) + Integer.bitCount(choice & bigs) <= valley.number;
        }

        int ovenFor(int choice, int v) {
            int oven = NONE;
            int shortest = NO_WAY;
            for (int p = 0; p < valley.places; p++) {
                if (isIn(choice, p) && carriedTo(p, v) < shortest) {
                    oven = p;
                    shortest = carriedTo(p, v);
                }
            }
            return oven;
        }

        /** The MEASURE in one number: so many times HUNGRY as villages are not served, and the cost of the others. */
        long measureOf(int choice) {
            long measure = 0;
            for (int p = 0; p < valley.places; p++) {
                measure += isIn(choice, p) ? valley.ovenCost(p) : 0;
            }
            for (int v = 0; v < valley.villages; v++) {
                if (valley.loaves[v] > 0) {
                    int oven = ovenFor(choice, v);
                    measure += oven == NONE ? HUNGRY : (long) valley.loaves[v] * carriedTo(oven, v);
                }
            }
            return measure;
        }

        /** Whether this oven of a choice serves this village, and that one has loaves. */
        private boolean feeds(int choice, int p, int v) {
            return valley.loaves[v] > 0 && ovenFor(choice, v) == p;
        }

        int villagesOf(int choice, int p) {
            int sum = 0;
            for (int v = 0; v < valley.villages; v++) {
                sum += feeds(choice, p, v) ? 1 : 0;
            }
            return sum;
        }

        int loavesOf(int choice, int p) {
            int sum = 0;
            for (int v = 0; v < valley.villages; v++) {
                sum += feeds(choice, p, v) ? valley.loaves[v] : 0;
            }
            return sum;
        }

        int farthestOf(int choice, int p) {
            int far = 0;
            for (int v = 0; v < valley.villages; v++) {
                far = feeds(choice, p, v) ? Math.max(far, carriedTo(p, v)) : far;
            }
            return far;
        }

        /** The greatest carried way of all villages with loaves that are served. */
        int farthestOfAll(int choice) {
            int far = 0;
            for (int v = 0; v < valley.villages; v++) {
                int oven = valley.loaves[v] > 0 ? ovenFor(choice, v) : NONE;
                far = oven == NONE ? far : Math.max(far, carriedTo(oven, v));
            }
            return far;
        }
    }

    /** What is found when all allowed choices that have a cost are looked at, from the least number on. */
    private static final class Survey {
        long leastCost;
        int bestChoice;
        int howMany;
        int inAll;
        int inSome;
        long nextCost;
        int nextChoice;
        int leastFar;
        int nearChoice;
        final long[] costWithout = new long[PLACES];

        void take(Ovens ovens) {
            forget();
            int end = 1 << ovens.valley.places;
            for (int choice = 0; choice < end; choice++) {
                long measure = ovens.mayStand(choice) ? ovens.measureOf(choice) : HUNGRY;
                if (measure < HUNGRY) {
                    noteCost(choice, measure);
                    noteLosses(choice, measure);
                    noteFar(choice, ovens.farthestOfAll(choice));
                }
            }
        }

        private void forget() {
            leastCost = NO_COST;
            bestChoice = NONE;
            howMany = 0;
            inAll = 0;
            inSome = 0;
            nextCost = NO_COST;
            nextChoice = NONE;
            leastFar = NO_WAY;
            nearChoice = NONE;
            for (int p = 0; p < PLACES; p++) {
                costWithout[p] = NO_COST;
            }
        }

        private void noteCost(int choice, long cost) {
            if (cost < leastCost) {
                nextCost = leastCost;
                nextChoice = bestChoice;
                leastCost = cost;
                bestChoice = choice;
                howMany = 1;
                inAll = choice;
                inSome = choice;
                return;
            }
            if (cost == leastCost) {
                howMany++;
                inAll &= choice;
                inSome |= choice;
            }
            if (cost < nextCost) {
                nextCost = cost;
                nextChoice = choice;
            }
        }

        private void noteLosses(int choice, long cost) {
            for (int p = 0; p < PLACES; p++) {
                if (!isIn(choice, p)) {
                    costWithout[p] = Math.min(costWithout[p], cost);
                }
            }
        }

        private void noteFar(int choice, int far) {
            if (far < leastFar) {
                leastFar = far;
                nearChoice = choice;
            }
        }

        int dearestLoss(Valley valley) {
            int dearest = NONE;
            long most = -1;
            for (int p = 0; p < valley.places; p++) {
                if (valley.kinds[p] != SHRINE && costWithout[p] > most) {
                    dearest = p;
                    most = costWithout[p];
                }
            }
            return dearest;
        }
    }

    /** Ovens put up one by one, and changed one for another. */
    private static final class Builder {
        final Ovens ovens;
        int steps = 0;
        private int found = 0;
        private long foundMeasure = 0;

        Builder(Ovens ovens) {
            this.ovens = ovens;
        }

        int putUp() {
            int choice = ovens.shrines;
            steps = 0;
            for (int i = 0; i < PLACES; i++) {
                int next = withOneMore(choice);
                if (next == choice) {
                    break;
                }
                choice = next;
                steps++;
            }
            return choice;
        }

        /** The measure becomes less each time, so no choice comes twice. */
        int improve(int start) {
            int choice = start;
            steps = 0;
            for (int i = 0; i < CHOICES; i++) {
                int next = withOneForAnother(choice);
                if (next == choice) {
                    break;
                }
                choice = next;
                steps++;
            }
            return choice;
        }

        private int withOneMore(int choice) {
            startFrom(choice);
            for (int p = 0; p < ovens.valley.places; p++) {
                if (!isIn(choice, p)) {
                    consider(choice | (1 << p));
                }
            }
            return found;
        }

        private int withOneForAnother(int choice) {
            startFrom(choice);
            for (int out = 0; out < ovens.valley.places; out++) {
                for (int in = 0; in < ovens.valley.places; in++) {
                    if (isIn(choice, out) && !isIn(choice, in)) {
                        consider(choice ^ (1 << out) ^ (1 << in));
                    }
                }
            }
            return found;
        }

        private void startFrom(int choice) {
            found = choice;
            foundMeasure = ovens.measureOf(choice);
        }

        /** Of like choices the first one stays: they are shown from the least places on. */
        private void consider(int choice) {
            long measure = ovens.mayStand(choice) ? ovens.measureOf(choice) : foundMeasure;
            if (measure < foundMeasure) {
                found = choice;
                foundMeasure = measure;
            }
        }
    }

    /** The prices of the villages, and what the places are worth by them. */
    private static final class Purse {
        final Valley valley;
        final Ovens ovens;
        final long[] prices = new long[VILLAGES];
        final long[] worths = new long[CHOICES];
        int topChoice = NONE;
        long highestBound = 0;

        Purse(Valley valley, Ovens ovens) {
            this.valley = valley;
            this.ovens = ovens;
        }

        void forgetFrom(int firstGone) {
            for (int v = firstGone; v < VILLAGES; v++) {
                prices[v] = 0;
            }
        }

        long giftOf(int p, int v) {
            int way = ovens.carriedTo(p, v);
            if (valley.loaves[v] == 0 || way == NO_WAY) {
                return 0;
            }
            return Math.max(0L, prices[v] - (long) valley.loaves[v] * way);
        }

        /** A SHRINE needs no rule of its own: it costs nothing, so its worth is never below 0. */
        long worthOf(int p) {
            long sum = -valley.ovenCost(p);
            for (int v = 0; v < valley.villages; v++) {
                sum += giftOf(p, v);
            }
            return Math.max(0L, sum);
        }

        /** The top is the allowed choice of the greatest worth, the least number of several. */
        void findTop() {
            addUpWorths();
            topChoice = NONE;
            int end = 1 << valley.places;
            for (int choice = 0; choice < end; choice++) {
                if (ovens.mayStand(choice) && (topChoice == NONE || worths[choice] > worths[topChoice])) {
                    topChoice = choice;
                }
            }
        }

        /** Each place doubles the choices that stand: those before it, and the same with it. */
        private void addUpWorths() {
            worths[0] = 0;
            for (int p = 0; p < valley.places; p++) {
                long worth = worthOf(p);
                int bit = 1 << p;
                for (int choice = 0; choice < bit; choice++) {
                    worths[choice | bit] = worths[choice] + worth;
                }
            }
        }

        /** Only behind findTop that found one. */
        long boundOfTop() {
            long sum = topChoice == NONE ? 0 : -worths[topChoice];
            for (int v = 0; v < valley.villages; v++) {
                sum += valley.loaves[v] > 0 ? prices[v] : 0;
            }
            return sum;
        }

        int climbFromTop(int times, int step) {
            int changes = 0;
            highestBound = boundOfTop();
            for (int i = 0; i < times; i++) {
                changes += movePrices(step);
                findTop();
                highestBound = Math.max(highestBound, boundOfTop());
            }
            return changes;
        }

        private int movePrices(int step) {
            int changes = 0;
            for (int v = 0; v < valley.villages; v++) {
                if (valley.loaves[v] > 0) {
                    long old = prices[v];
                    prices[v] = movedPrice(old, giversOfTop(v), step);
                    changes += prices[v] != old ? 1 : 0;
                }
            }
            return changes;
        }

        private static long movedPrice(long old, int givers, int step) {
            if (givers == 0) {
                return Math.min(old + step, MOST_PRICE);
            }
            return givers == 1 ? old : Math.max(old - step, 0);
        }

        private int giversOfTop(int v) {
            int givers = 0;
            for (int p = 0; p < valley.places; p++) {
                givers += isIn(topChoice, p) && giftOf(p, v) > 0 ? 1 : 0;
            }
            return givers;
        }
    }
}
