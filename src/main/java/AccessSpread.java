/** Persons and boxes with rights over one another, and how these rights spread; ../shared/DOC.md tells all of it. */
public final class AccessSpread {
    public static final int NONE = -9;

    private static final int MOST_THINGS = 7;
    private static final int MOST_RIGHTS = 30;
    private static final int MOST_SIGNS = 110;
    private static final int MOST_REMEMBERED = 14;
    private static final int MOST_COMMANDS = 3;
    private static final int MOST_TRIES = 99;
    private static final int SLOTS = 2;

    private static final int KINDS = 4;
    private static final int TAKE = 0;
    private static final int GIVE = 1;
    private static final int READ = 2;
    private static final int WRITE = 3;

    // A right k of x over y is held as one index, ROW * x + MOST_THINGS * k + y: in the order of the rights' numbers.
    private static final int ROW = KINDS * MOST_THINGS;
    private static final int INDICES = MOST_THINGS * ROW;
    /** More rounds than there can be: each brings a right at least. */
    private static final int MOST_ROUNDS = INDICES;

    private static final int GROUP = 100000;

    private final StateText text;
    private final State state;
    private final State[] remembered;
    private int rememberedCount;
    private final State[] slots;
    private final boolean[] isSaved;
    /** What scripts, simulations and the reading of the text change instead of the state. */
    private final State copy;
    private final State whatIf;
    private final Spread spread;
    private final Learning learning;
    private final CutSearch cutSearch;

    public AccessSpread() {
        text = new StateText();
        state = new State();
        remembered = new State[MOST_REMEMBERED];
        for (int i = 0; i < MOST_REMEMBERED; i++) {
            remembered[i] = new State();
        }
        slots = new State[SLOTS];
        for (int i = 0; i < SLOTS; i++) {
            slots[i] = new State();
        }
        isSaved = new boolean[SLOTS];
        copy = new State();
        whatIf = new State();
        spread = new Spread();
        learning = new Learning();
        cutSearch = new CutSearch();
    }

    // ---- text

    public int append(int c) throws IllegalArgumentException, IllegalStateException {
        if (c < 0 || c > 255) {
            throw new IllegalArgumentException("no character code");
        }
        if (text.length >= MOST_SIGNS) {
            throw new IllegalStateException("the text is full");
        }
        text.addSign((char) c);
        return text.length;
    }

    public int clearText() {
        int previous = text.length;
        text.length = 0;
        return previous;
    }

    public int errorPosition() {
        return text.readInto(copy);
    }

    public int load() throws IllegalStateException {
        if (text.readInto(copy) != NONE) {
            throw new IllegalStateException("the text is not a state");
        }
        state.copyFrom(copy);
        rememberedCount = 0;
        for (int i = 0; i < SLOTS; i++) {
            isSaved[i] = false;
        }
        return state.things;
    }

    // ---- what there is

    public int about(int what) throws IllegalArgumentException {
        switch (what) {
            case 0:
                return state.things;
            case 1:
                return Integer.bitCount(state.persons);
            case 2:
                return Integer.bitCount(state.awake);
            case 3:
                return state.countRights();
            case 4:
                return endOf(state).countRights();
            case 5:
                spread.follow(state);
                return spread.rounds;
            case 6:
                learning.follow(state);
                return learning.countPairs();
            case 7:
                learning.follow(endOf(state));
                return learning.countPairs();
            default:
                throw new IllegalArgumentException("no such number");
        }
    }

    public int thing(int i, int what) throws IndexOutOfBoundsException, IllegalArgumentException {
        checkThing(i);
        switch (what) {
            case 0:
                return state.isPerson(i) ? 1 : 0;
            case 1:
                return state.isAwake(i) ? 1 : 0;
            case 2:
                return Integer.bitCount(state.rows[i]);
            case 3:
                return state.countRightsOver(i);
            case 4:
                learning.follow(state);
                return learning.learnt[i];
            case 5:
                learning.follow(endOf(state));
                return learning.learnt[i];
            case 6:
                return Integer.bitCount(endOf(state).rows[i]);
            default:
                throw new IllegalArgumentException("no such number");
        }
    }

    public int rights(int x, int y, boolean end) throws IndexOutOfBoundsException, IllegalArgumentException {
        checkRight(x, 0, y);
        State asked = end ? endOf(state) : state;
        int found = 0;
        for (int k = 0; k < KINDS; k++) {
            if (asked.has(rightOf(x, k, y))) {
                found |= 1 << k;
            }
        }
        return found;
    }

    public int round(int x, int k, int y) throws IndexOutOfBoundsException, IllegalArgumentException {
        checkRight(x, k, y);
        spread.follow(state);
        int right = rightOf(x, k, y);
        return spread.comes(right) ? spread.roundOf[right] : NONE;
    }

    public int way(int x, int k, int y) throws IndexOutOfBoundsException, IllegalArgumentException {
        checkRight(x, k, y);
        spread.follow(state);
        return spread.wayOf(rightOf(x, k, y));
    }

    public int proof(int x, int k, int y) throws IndexOutOfBoundsException, IllegalArgumentException {
        checkRight(x, k, y);
        spread.follow(state);
        int right = rightOf(x, k, y);
        return spread.comes(right) ? spread.prove(right) : NONE;
    }

    // ---- actions

    public int addThing(boolean person) throws IllegalStateException {
        if (state.things >= MOST_THINGS) {
            throw new IllegalStateException("there are 7 things");
        }
        remember();
        state.addOne(person, person);
        return state.things - 1;
    }

    public int removeThing(int i) throws IndexOutOfBoundsException {
        checkThing(i);
        remember();
        return state.removeOne(i);
    }

    public int wake(int i, boolean is) throws IndexOutOfBoundsException, IllegalStateException {
        checkThing(i);
        if (!state.isPerson(i)) {
            throw new IllegalStateException("a box cannot be awake");
        }
        remember();
        state.setAwake(i, is);
        return endOf(state).countRights();
    }

    public boolean set(int x, int k, int y, boolean is)
            throws IndexOutOfBoundsException, IllegalArgumentException, IllegalStateException {
        checkRight(x, k, y);
        int right = rightOf(x, k, y);
        if (is && !state.hasRoomFor(right)) {
            throw new IllegalStateException("there are 30 rights");
        }
        boolean had = state.has(right);
        remember();
        state.put(right, is);
        return had;
    }

    public int take(int p, int y, int k, int z)
            throws IndexOutOfBoundsException, IllegalArgumentException, IllegalStateException {
        return doStep(false, p, y, k, z);
    }

    public int give(int p, int y, int k, int z)
            throws IndexOutOfBoundsException, IllegalArgumentException, IllegalStateException {
        return doStep(true, p, y, k, z);
    }

    public int undo() throws IllegalStateException {
        if (rememberedCount == 0) {
            throw new IllegalStateException("no state is remembered");
        }
        rememberedCount--;
        state.copyFrom(remembered[rememberedCount]);
        return rememberedCount;
    }

    // ---- what would be

    public int whyNot(boolean gives, int p, int y, int k, int z)
            throws IndexOutOfBoundsException, IllegalArgumentException {
        checkStep(p, y, k, z);
        return state.whatBars(gives, p, y, k, z);
    }

    public int needed(int x, int k, int y) throws IndexOutOfBoundsException, IllegalArgumentException {
        checkRight(x, k, y);
        int right = rightOf(x, k, y);
        if (!comesWith(state.awake, right)) {
            return NONE;
        }
        int best = state.awake;
        for (int set = 0; set < 1 << MOST_THINGS; set++) {
            boolean areAwakeNow = (set & ~state.awake) == 0;
            if (areAwakeNow && Integer.bitCount(set) < Integer.bitCount(best) && comesWith(set, right)) {
                best = set;
            }
        }
        return best;
    }

    public int cut(int x, int k, int y) throws IndexOutOfBoundsException, IllegalArgumentException {
        checkRight(x, k, y);
        return cutSearch.sizeFor(state, spread, rightOf(x, k, y));
    }

    public int cutAt(int x, int k, int y, int i) throws IndexOutOfBoundsException, IllegalArgumentException {
        checkRight(x, k, y);
        if (i < 0 || i > 1) {
            throw new IllegalArgumentException("a set has the rights 0 and 1 at most");
        }
        int size = cutSearch.sizeFor(state, spread, rightOf(x, k, y));
        if (i >= size) {
            return NONE;
        }
        return numberOf(i == 0 ? cutSearch.first : cutSearch.second);
    }

    public int sleeper() {
        int best = NONE;
        int fewest = INDICES;
        for (int i = 0; i < state.things; i++) {
            if (state.isAwake(i)) {
                whatIf.copyFrom(state);
                whatIf.setAwake(i, false);
                whatIf.spreadOut();
                if (whatIf.countRights() < fewest) {
                    fewest = whatIf.countRights();
                    best = i;
                }
            }
        }
        return best;
    }

    public int danger() {
        spread.follow(state);
        int best = NONE;
        int most = -1;
        for (int right = 0; right < INDICES; right++) {
            if (state.isRightIndex(right) && !state.has(right)) {
                int rightsThen = countAtEndWith(right);
                if (rightsThen > most) {
                    most = rightsThen;
                    best = numberOf(right);
                }
            }
        }
        return best;
    }

    // ---- scripts, simulations

    public int runScript(int n, long script) throws IllegalArgumentException {
        if (n < 1 || n > MOST_COMMANDS || script < 0 || withoutGroups(script, n) != 0) {
            throw new IllegalArgumentException("no script of so many commands");
        }
        copy.copyFrom(state);
        for (int i = 0; i < n; i++) {
            int group = (int) (withoutGroups(script, n - 1 - i) % GROUP);
            if (!runCommand(group)) {
                return i;
            }
        }
        return NONE;
    }

    public int simulate(long seed, int m) throws IllegalArgumentException {
        if (m < 1 || m > MOST_TRIES) {
            throw new IllegalArgumentException("1 to 99 tries");
        }
        copy.copyFrom(state);
        int came = 0;
        long x = seed;
        for (int i = 0; i < m; i++) {
            x = x * 6364136223846793005L + 1442695040888963407L;
            if (tryByChance((int) (x >>> 33))) {
                came++;
            }
        }
        return 100 * came + copy.countRights();
    }

    // ---- save slots

    public int save(int slot) throws IndexOutOfBoundsException {
        checkSlot(slot);
        slots[slot].copyFrom(state);
        isSaved[slot] = true;
        return state.countRights();
    }

    public int restore(int slot) throws IndexOutOfBoundsException, IllegalStateException {
        checkSlot(slot);
        if (!isSaved[slot]) {
            throw new IllegalStateException("nothing has been saved there");
        }
        state.copyFrom(slots[slot]);
        rememberedCount = 0;
        return state.countRights();
    }

    // ---- the indices and numbers of rights

    private static int rightOf(int x, int k, int y) {
        return ROW * x + MOST_THINGS * k + y;
    }

    private static int ownerOf(int right) {
        return right / ROW;
    }

    private static int kindOf(int right) {
        return right / MOST_THINGS % KINDS;
    }

    private static int objectOf(int right) {
        return right % MOST_THINGS;
    }

    private static int numberOf(int right) {
        return 100 * ownerOf(right) + 10 * kindOf(right) + objectOf(right);
    }

    // ---- what calls have to fulfil

    private void checkThing(int i) {
        if (!state.exists(i)) {
            throw new IndexOutOfBoundsException("no such thing");
        }
    }

    private void checkRight(int x, int k, int y) {
        checkThing(x);
        checkThing(y);
        if (!state.isRight(x, k, y)) {
            throw new IllegalArgumentException("no right over another thing");
        }
    }

    private void checkStep(int p, int y, int k, int z) {
        checkThing(p);
        checkThing(y);
        checkThing(z);
        if (!state.isStep(p, y, k, z)) {
            throw new IllegalArgumentException("no step with three things");
        }
    }

    private static void checkSlot(int slot) {
        if (slot < 0 || slot >= SLOTS) {
            throw new IndexOutOfBoundsException("no such save slot");
        }
    }

    // ---- helpers of the actions

    private void remember() {
        if (rememberedCount >= MOST_REMEMBERED) {
            forgetOldest();
        }
        remembered[rememberedCount].copyFrom(state);
        rememberedCount++;
    }

    private void forgetOldest() {
        State oldest = remembered[0];
        for (int i = 1; i < MOST_REMEMBERED; i++) {
            remembered[i - 1] = remembered[i];
        }
        remembered[MOST_REMEMBERED - 1] = oldest;
        rememberedCount--;
    }

    private int doStep(boolean gives, int p, int y, int k, int z) {
        checkStep(p, y, k, z);
        if (!state.allowsStep(gives, p, y, k, z)) {
            throw new IllegalStateException("the step cannot be done");
        }
        remember();
        state.put(rightOf(gives ? y : p, k, z), true);
        return state.countRights();
    }

    // ---- helpers of what would be

    private State endOf(State start) {
        whatIf.copyFrom(start);
        whatIf.spreadOut();
        return whatIf;
    }

    private boolean comesWith(int awake, int right) {
        whatIf.copyFrom(state);
        whatIf.awake = awake;
        return whatIf.spreadUntil(right);
    }

    /** The spread has been followed: its end is the shorter start, and what comes anyway adds nothing to it. */
    private int countAtEndWith(int right) {
        if (spread.comes(right)) {
            return spread.end.countRights();
        }
        whatIf.copyFrom(spread.end);
        whatIf.put(right, true);
        whatIf.spreadOut();
        return whatIf.countRights();
    }

    // ---- helpers of scripts and simulations

    private static long withoutGroups(long script, int groups) {
        long rest = script;
        for (int i = 0; i < groups; i++) {
            rest /= GROUP;
        }
        return rest;
    }

    private boolean runCommand(int group) {
        int a = group / 1000 % 10;
        int b = group / 100 % 10;
        int c = group / 10 % 10;
        int d = group % 10;
        switch (group / 10000) {
            case 1:
                return commandStep(false, a, b, c, d);
            case 2:
                return commandStep(true, a, b, c, d);
            case 3:
                return commandSet(a, b, c, d);
            case 4:
                return c == 0 && d == 0 && commandWake(a, b);
            case 5:
                return b == 0 && c == 0 && d == 0 && commandRemove(a);
            case 6:
                return d == 0 && copy.isRight(a, b, c) && copy.has(rightOf(a, b, c));
            case 7:
                return d == 0 && copy.isRight(a, b, c) && endOf(copy).has(rightOf(a, b, c));
            case 8:
                return a == 0 && endOf(copy).countRights() <= 100 * b + 10 * c + d;
            case 9:
                return c == 0 && d == 0 && commandLearns(a, b);
            default:
                return false;
        }
    }

    private boolean commandStep(boolean gives, int p, int y, int k, int z) {
        if (!copy.isStep(p, y, k, z) || !copy.allowsStep(gives, p, y, k, z)) {
            return false;
        }
        copy.put(rightOf(gives ? y : p, k, z), true);
        return true;
    }

    private boolean commandSet(int x, int k, int y, int i) {
        if (i > 1 || !copy.isRight(x, k, y)) {
            return false;
        }
        int right = rightOf(x, k, y);
        if (i == 1 && !copy.hasRoomFor(right)) {
            return false;
        }
        copy.put(right, i == 1);
        return true;
    }

    private boolean commandWake(int i, int w) {
        if (w > 1 || !copy.exists(i) || !copy.isPerson(i)) {
            return false;
        }
        copy.setAwake(i, w == 1);
        return true;
    }

    private boolean commandRemove(int i) {
        if (!copy.exists(i)) {
            return false;
        }
        copy.removeOne(i);
        return true;
    }

    private boolean commandLearns(int a, int b) {
        if (!copy.isRight(a, 0, b)) {
            return false;
        }
        learning.follow(copy);
        return (learning.learnt[a] >> b & 1) != 0;
    }

    private boolean tryByChance(int r) {
        int n = copy.things;
        if (n < 3) {
            return false;
        }
        int p = r / 2 % n;
        int y = (p + 1 + r / 16 % (n - 1)) % n;
        int z = thingBeside(p, y, r / 128 % (n - 2));
        int k = r / 1024 % KINDS;
        boolean gives = r % 2 != 0;
        int right = rightOf(gives ? y : p, k, z);
        if (copy.has(right) || !copy.allowsStep(gives, p, y, k, z)) {
            return false;
        }
        copy.put(right, true);
        return true;
    }

    private static int thingBeside(int p, int y, int position) {
        int z = position;
        if (z >= Math.min(p, y)) {
            z++;
        }
        if (z >= Math.max(p, y)) {
            z++;
        }
        return z;
    }

    /** Things, sets of them as bits, and for each thing a row of the rights that it has: k over y is the bit 7 * k + y. */
    private static final class State {
        /** The bits of all four rights over the thing 0; those over the thing y are y higher. */
        private static final int OVER = 1 | 1 << MOST_THINGS | 1 << 2 * MOST_THINGS | 1 << 3 * MOST_THINGS;
        private static final int ALL = (1 << MOST_THINGS) - 1;

        int things;
        int persons;
        int awake;
        final int[] rows = new int[MOST_THINGS];

        void copyFrom(State other) {
            things = other.things;
            persons = other.persons;
            awake = other.awake;
            for (int x = 0; x < MOST_THINGS; x++) {
                rows[x] = other.rows[x];
            }
        }

        void makeEmpty() {
            things = 0;
            persons = 0;
            awake = 0;
            for (int x = 0; x < MOST_THINGS; x++) {
                rows[x] = 0;
            }
        }

        boolean exists(int i) {
            return i >= 0 && i < things;
        }

        boolean isPerson(int i) {
            return (persons >> i & 1) != 0;
        }

        boolean isAwake(int i) {
            return (awake >> i & 1) != 0;
        }

        boolean isRight(int x, int k, int y) {
            return exists(x) && exists(y) && x != y && k >= 0 && k < KINDS;
        }

        boolean isRightIndex(int right) {
            return isRight(ownerOf(right), kindOf(right), objectOf(right));
        }

        boolean isStep(int p, int y, int k, int z) {
            return isRight(p, k, y) && isRight(p, k, z) && isRight(y, k, z);
        }

        boolean has(int right) {
            return (rows[right / ROW] >> right % ROW & 1) != 0;
        }

        void put(int right, boolean is) {
            int bit = 1 << right % ROW;
            int row = rows[right / ROW];
            rows[right / ROW] = is ? row | bit : row & ~bit;
        }

        boolean hasRoomFor(int right) {
            return has(right) || countRights() < MOST_RIGHTS;
        }

        int countRights() {
            int count = 0;
            for (int x = 0; x < things; x++) {
                count += Integer.bitCount(rows[x]);
            }
            return count;
        }

        int countRightsOver(int y) {
            int count = 0;
            for (int x = 0; x < things; x++) {
                count += Integer.bitCount(rows[x] & (OVER << y));
            }
            return count;
        }

        void addOne(boolean person, boolean isAwake) {
            if (person) {
                persons |= 1 << things;
            }
            if (isAwake) {
                awake |= 1 << things;
            }
            things++;
        }

        void setAwake(int i, boolean is) {
            awake = is ? awake | 1 << i : awake & ~(1 << i);
        }

        int removeOne(int i) {
            int before = countRights();
            persons = closeGap(persons, i);
            awake = closeGap(awake, i);
            for (int x = i; x < MOST_THINGS - 1; x++) {
                rows[x] = rows[x + 1];
            }
            rows[MOST_THINGS - 1] = 0;
            things--;
            for (int x = 0; x < things; x++) {
                rows[x] = closeGapInRow(rows[x], i);
            }
            return before - countRights();
        }

        private static int closeGap(int set, int i) {
            int below = set & ((1 << i) - 1);
            int above = (set >> (i + 1)) << i;
            return below | above;
        }

        private static int closeGapInRow(int row, int i) {
            int closed = 0;
            for (int k = 0; k < KINDS; k++) {
                int set = (row >> MOST_THINGS * k) & ALL;
                closed |= closeGap(set, i) << MOST_THINGS * k;
            }
            return closed;
        }

        int whatBars(boolean gives, int p, int y, int k, int z) {
            if (!isPerson(p)) {
                return 1;
            }
            if (!isAwake(p)) {
                return 2;
            }
            if (!has(rightOf(p, gives ? GIVE : TAKE, y))) {
                return 3;
            }
            return has(rightOf(gives ? p : y, k, z)) ? 0 : 4;
        }

        boolean allowsStep(boolean gives, int p, int y, int k, int z) {
            return whatBars(gives, p, y, k, z) == 0 && hasRoomFor(rightOf(gives ? y : p, k, z));
        }

        /** Does all steps that the rights in before (it may be this) allow, and tells whether a right came. */
        boolean doSteps(State before) {
            boolean more = false;
            for (int p = 0; p < things; p++) {
                if (isAwake(p) && doStepsOf(p, before)) {
                    more = true;
                }
            }
            return more;
        }

        private boolean doStepsOf(int p, State before) {
            int own = before.rows[p];
            boolean more = false;
            for (int y = 0; y < things; y++) {
                if ((own >> MOST_THINGS * TAKE + y & 1) != 0 && addRights(p, before.rows[y])) {
                    more = true;
                }
                if ((own >> MOST_THINGS * GIVE + y & 1) != 0 && addRights(y, own)) {
                    more = true;
                }
            }
            return more;
        }

        /** Leaves out the rights over x itself: the three things of a step differ. */
        private boolean addRights(int x, int row) {
            int earlier = rows[x];
            rows[x] = earlier | row & ~(OVER << x);
            return rows[x] != earlier;
        }

        /** Uses rights as soon as they come: rights only grow, so the end is that of the rounds. */
        void spreadOut() {
            boolean more = true;
            for (int i = 0; i < MOST_ROUNDS && more; i++) {
                more = doSteps(this);
            }
        }

        boolean spreadUntil(int right) {
            boolean more = true;
            for (int i = 0; i < MOST_ROUNDS && more && !has(right); i++) {
                more = doSteps(this);
            }
            return has(right);
        }
    }

    /** The text buffer, and its reading as a state. */
    private static final class StateText {
        /** The letters of the kinds of rights, in the order of the kinds. */
        private static final String KIND_SIGNS = "tgrw";

        final char[] signs = new char[MOST_SIGNS];
        int length;

        void addSign(char sign) {
            if (length < MOST_SIGNS) {
                signs[length] = sign;
                length++;
            }
        }

        /** Returns the error position; only if it is NONE, the state that was read is whole. */
        int readInto(State read) {
            read.makeEmpty();
            if (length == 0 || signs[0] != 'R') {
                return 0;
            }
            int at = 1;
            while (at < length && signs[at] != '/') {
                if (!readThing(signs[at], read)) {
                    return at;
                }
                at++;
            }
            if (at >= length) {
                return NONE;
            }
            return read.things < 2 ? at : readRights(at + 1, read);
        }

        private static boolean readThing(char sign, State read) {
            boolean isKnown = sign == 'p' || sign == 's' || sign == 'b';
            if (!isKnown || read.things >= MOST_THINGS) {
                return false;
            }
            read.addOne(sign != 'b', sign == 'p');
            return true;
        }

        private int readRights(int start, State read) {
            int at = start;
            int error = readRight(at, read);
            while (error == NONE && at + 3 < length) {
                at += 3;
                error = readRight(at, read);
            }
            return error;
        }

        private int readRight(int at, State read) {
            int x = thingAt(at, read);
            if (x < 0 || read.countRights() >= MOST_RIGHTS) {
                return at;
            }
            int k = kindAt(at + 1);
            if (k < 0) {
                return at + 1;
            }
            int y = thingAt(at + 2, read);
            if (y < 0 || y == x || read.has(rightOf(x, k, y))) {
                return at + 2;
            }
            read.put(rightOf(x, k, y), true);
            return NONE;
        }

        private int thingAt(int at, State read) {
            int i = at < length ? signs[at] - '0' : NONE;
            return read.exists(i) ? i : NONE;
        }

        private int kindAt(int at) {
            return at < length ? KIND_SIGNS.indexOf(signs[at]) : NONE;
        }
    }

    /** The rounds of a spread, with the ways and proofs of the rights that come in it. */
    private static final class Spread {
        private static final int NEVER = MOST_ROUNDS + 1;

        final State end = new State();
        final int[] roundOf = new int[INDICES];
        int rounds;
        private final State before = new State();
        private final int[] proofRights = new int[INDICES];
        private int proofSize;
        private final boolean[] isInProof = new boolean[INDICES];

        void follow(State start) {
            for (int right = 0; right < INDICES; right++) {
                roundOf[right] = NEVER;
            }
            before.makeEmpty();
            end.copyFrom(start);
            noteRound(0);
            rounds = 0;
            before.copyFrom(end);
            while (rounds < MOST_ROUNDS && end.doSteps(before)) {
                rounds++;
                noteRound(rounds);
                before.copyFrom(end);
            }
        }

        private void noteRound(int round) {
            for (int x = 0; x < end.things; x++) {
                int coming = end.rows[x] & ~before.rows[x];
                for (int bit = 0; bit < ROW && coming >> bit != 0; bit++) {
                    if ((coming >> bit & 1) != 0) {
                        roundOf[ROW * x + bit] = round;
                    }
                }
            }
        }

        boolean comes(int right) {
            return roundOf[right] != NEVER;
        }

        /** Needs no look at whether three things differ: rights of a thing over itself never come. */
        int wayOf(int right) {
            int round = roundOf[right];
            if (round == 0 || round == NEVER) {
                return NONE;
            }
            int x = ownerOf(right);
            int bit = right % ROW;
            for (int y = 0; y < end.things && end.isAwake(x); y++) {
                if (roundOf[rightOf(x, TAKE, y)] < round && roundOf[ROW * y + bit] < round) {
                    return 10 * x + y;
                }
            }
            for (int p = 0; p < end.things; p++) {
                if (end.isAwake(p) && roundOf[rightOf(p, GIVE, x)] < round && roundOf[ROW * p + bit] < round) {
                    return 100 + 10 * p + x;
                }
            }
            return NONE;
        }

        /** Lists the rights that the proof uses and brings; each right has one way, so it has a step for each it brings. */
        int prove(int right) {
            proofSize = 0;
            for (int i = 0; i < INDICES; i++) {
                isInProof[i] = false;
            }
            addToProof(right);
            int steps = 0;
            for (int i = 0; i < INDICES && i < proofSize; i++) {
                int way = wayOf(proofRights[i]);
                if (way != NONE) {
                    steps++;
                    addNeeds(proofRights[i], way);
                }
            }
            return steps;
        }

        private void addNeeds(int right, int way) {
            boolean gives = way >= 100;
            int p = way / 10 % 10;
            int y = way % 10;
            addToProof(rightOf(p, gives ? GIVE : TAKE, y));
            addToProof(ROW * (gives ? p : y) + right % ROW);
        }

        private void addToProof(int right) {
            if (!isInProof[right] && proofSize < INDICES) {
                isInProof[right] = true;
                proofRights[proofSize] = right;
                proofSize++;
            }
        }

        boolean isUsed(int right) {
            return isInProof[right];
        }
    }

    /** Of which things each thing can learn. */
    private static final class Learning {
        final int[] learnt = new int[MOST_THINGS];

        void follow(State state) {
            for (int a = 0; a < MOST_THINGS; a++) {
                learnt[a] = heard(state, a);
            }
            for (int between = 0; between < MOST_THINGS; between++) {
                for (int a = 0; a < MOST_THINGS; a++) {
                    if ((learnt[a] >> between & 1) != 0) {
                        learnt[a] |= learnt[between];
                    }
                }
            }
            for (int a = 0; a < MOST_THINGS; a++) {
                learnt[a] &= ~(1 << a);
            }
        }

        private static int heard(State state, int a) {
            int heard = 0;
            for (int b = 0; b < state.things; b++) {
                boolean reads = state.isPerson(a) && state.has(rightOf(a, READ, b));
                boolean isWritten = state.isPerson(b) && state.has(rightOf(b, WRITE, a));
                if (reads || isWritten) {
                    heard |= 1 << b;
                }
            }
            return heard;
        }

        int countPairs() {
            int count = 0;
            for (int a = 0; a < MOST_THINGS; a++) {
                count += Integer.bitCount(learnt[a]);
            }
            return count;
        }
    }

    /** Looks for the first smallest set of rights without which a right does not come. */
    private static final class CutSearch {
        int first;
        int second;
        private final State rest = new State();

        int sizeFor(State state, Spread spread, int right) {
            first = 0;
            second = 0;
            spread.follow(state);
            if (!spread.comes(right)) {
                return 0;
            }
            spread.prove(right);
            if (findOne(state, spread, right)) {
                return 1;
            }
            return findTwo(state, spread, right) ? 2 : NONE;
        }

        /** What leaves a whole proof of the right does not cut it: this proof has to lose a right at least. */
        private boolean findOne(State state, Spread spread, int right) {
            for (int a = 0; a < INDICES; a++) {
                if (state.has(a) && spread.isUsed(a) && cutsBoth(state, a, a, right)) {
                    first = a;
                    return true;
                }
            }
            return false;
        }

        private boolean findTwo(State state, Spread spread, int right) {
            for (int a = 0; a < INDICES; a++) {
                for (int b = a + 1; b < INDICES && state.has(a); b++) {
                    boolean hurtsProof = spread.isUsed(a) || spread.isUsed(b);
                    if (hurtsProof && state.has(b) && cutsBoth(state, a, b, right)) {
                        first = a;
                        second = b;
                        return true;
                    }
                }
            }
            return false;
        }

        private boolean cutsBoth(State state, int a, int b, int right) {
            rest.copyFrom(state);
            rest.put(a, false);
            rest.put(b, false);
            return !rest.spreadUntil(right);
        }
    }
}
