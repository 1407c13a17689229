/** Pegs that jump on a small board of holes. ../shared/DOC.md promises what each call answers. */
public final class PegField {
    public static final int NONE = -1, UNKNOWN = -101, OUTSIDE = -102, STATE = -103, FULL = -104;

    private static final int MAX_LETTERS = 18;
    private static final int MIN_SIDE = 2, MAX_SIDE = 4;
    private static final int MAX_PLACES = 12;
    private static final int MAX_PEGS = 7;
    // ADD thinks of one peg more than a board can tell.
    private static final int MAX_PEGS_THOUGHT = MAX_PEGS + 1;
    private static final int MAX_SEEN = 6;
    private static final int MAX_JUMPS = 999;
    private static final int MAX_ADDS = 12;
    private static final int MAX_RUNS = 40;
    private static final int FIRST_CODE = 32, LAST_CODE = 126;

    // The signs of rows, columns and ';' stand ahead of those of the places.
    private static final int HEAD = 3;
    private static final char[] KIND_LETTERS = {'p', 'x', 's', 'f', 'b'};

    private static final int PLAIN = 0;
    private static final int KINDS = 5;
    private static final int ALL_KINDS = 31;
    // By the kind as which a peg is taken: which kinds are such, as bits. A BOTH is a SLANT, too.
    private static final int[] TAKEN_AS = {31, 18, 4, 8, 16};

    // What can be asked of a peg: 0 go straight, 1 go aslant, and these.
    private static final int BE_JUMPED_OVER = 2, STAY = 3;
    private static final int QUESTIONS = 4;
    // By the question: which kinds could do that, as bits.
    private static final int[] WHO_COULD = {29, 18, 27, 23};

    // In this order the place to which a jump leads grows, so the first jump found is the least.
    private static final int DIRECTIONS = 8;
    private static final int[] ROW_STEPS = {-1, -1, -1, 0, 0, 1, 1, 1};
    private static final int[] COLUMN_STEPS = {-1, 0, 1, -1, 1, -1, 0, 1};
    // By the direction: which kinds go that way, as bits (18: aslant, 29: straight).
    private static final int[] WHO_GOES = {18, 29, 18, 29, 29, 18, 29, 18};

    private final Page page = new Page();
    private final Grid grid = new Grid();
    private final State now = new State(grid);
    private final Seen seen = new Seen();
    private final State keptState = new State(grid);
    private final Seen keptSeen = new Seen();
    private boolean isKept;
    // What would be is tried out here, so that nothing is left behind in what is.
    private final State thought = new State(grid);
    private final Outcome outlook = new Outcome();
    // By the depth of the search: what there is behind so many jumps; the first is the outlook.
    private final Outcome[] outcomes = new Outcome[MAX_PEGS_THOUGHT + 1];
    // Whether the outlook tells of how all is now: one search then serves many calls.
    private boolean isLooked;
    private int reads;
    private int adds;

    public PegField() {
        outcomes[0] = outlook;
        for (int depth = 1; depth < outcomes.length; depth++) {
            outcomes[depth] = new Outcome();
        }
    }

    // ---- the board

    public int letter(int code) {
        if (code < FIRST_CODE || code > LAST_CODE) {
            return OUTSIDE;
        }
        return page.append(code) ? page.size : FULL;
    }

    public int blank() {
        int had = page.size;
        page.size = 0;
        return had;
    }

    public int fault() {
        return page.firstFault();
    }

    public int board() {
        if (!page.isBoard()) {
            return STATE;
        }
        grid.lay(page.digitAt(0), page.digitAt(1));
        now.read(page);
        seen.size = 0;
        page.size = 0;
        isKept = false;
        isLooked = false;
        reads++;
        return now.pegs;
    }

    // ---- pegs, places

    public int peg(int peg, int what) {
        if (!now.isPeg(peg)) {
            return UNKNOWN;
        }
        switch (what) {
            case 0:
                return now.kindOf(peg);
            case 1:
                return now.homeOf(peg);
            case 2:
                return now.targetsOf(peg);
            case 3:
                return seen.sortsOf(peg);
            case 4:
                return bestQuestion(seen.sortsOf(peg));
            default:
                return OUTSIDE;
        }
    }

    public int as(int peg, int kind) {
        if (!now.isPeg(peg)) {
            return UNKNOWN;
        }
        if (kind < 0 || kind >= KINDS) {
            return OUTSIDE;
        }
        return hasBit(TAKEN_AS[kind], now.kindOf(peg)) ? peg : NONE;
    }

    public int place(int place, int what) {
        if (!grid.has(place)) {
            return UNKNOWN;
        }
        switch (what) {
            case 0:
                return now.isHole(place) ? 1 : 0;
            case 1:
                return now.pegIn(place);
            default:
                return OUTSIDE;
        }
    }

    // ---- what is done

    public int jump(int peg, int place) {
        if (!now.isPeg(peg) || !grid.has(place)) {
            return UNKNOWN;
        }
        int direction = now.directionTo(peg, place);
        if (direction == NONE) {
            return STATE;
        }
        if (now.jumps >= MAX_JUMPS) {
            return FULL;
        }
        now.leap(peg, now.neighbourOf(peg, direction), place);
        now.jumps++;
        isLooked = false;
        return now.onBoard;
    }

    public int put(int peg, int place) {
        if (!now.isPeg(peg) || !grid.has(place)) {
            return UNKNOWN;
        }
        if (now.homeOf(peg) != NONE || !now.isEmptyHole(place)) {
            return STATE;
        }
        now.set(peg, place);
        isLooked = false;
        return now.onBoard;
    }

    public int plug(int place) {
        if (!grid.has(place)) {
            return UNKNOWN;
        }
        if (!now.isEmptyHole(place)) {
            return STATE;
        }
        now.holes &= ~(1 << place);
        isLooked = false;
        return Integer.bitCount(now.holes);
    }

    public int bore(int place) {
        if (!grid.has(place)) {
            return UNKNOWN;
        }
        if (now.isHole(place)) {
            return STATE;
        }
        now.holes |= 1 << place;
        isLooked = false;
        return Integer.bitCount(now.holes);
    }

    public int be(int peg, int kind) {
        if (!now.isPeg(peg)) {
            return UNKNOWN;
        }
        if (kind < 0 || kind >= KINDS) {
            return OUTSIDE;
        }
        int was = now.kindOf(peg);
        now.turn(peg, kind);
        isLooked = false;
        return was;
    }

    // ---- what would be

    public int courses(int what) {
        if (what < 0 || what > 5) {
            return OUTSIDE;
        }
        if (reads == 0) {
            return STATE;
        }
        lookAhead();
        switch (what) {
            case 0:
                return outlook.fewest;
            case 1:
                return outlook.first;
            case 2:
                return outlook.ways;
            case 3:
                return outlook.longest;
            case 4:
                return outlook.shortest;
            default:
                return outlook.alone;
        }
    }

    public int wins(int what) {
        if (what < 0 || what > 1) {
            return OUTSIDE;
        }
        if (reads == 0) {
            return STATE;
        }
        lookAhead();
        if (what == 1) {
            return outlook.winning;
        }
        return outlook.winning == NONE ? 0 : 1;
    }

    public int add() {
        if (reads == 0 || adds >= MAX_ADDS) {
            return STATE;
        }
        adds++;
        isLooked = false;
        for (int place = 0; place < MAX_PLACES; place++) {
            if (now.isEmptyHole(place) && fewestWithOneMore(place) == 1) {
                return place;
            }
        }
        return NONE;
    }

    public int mean() {
        if (reads == 0) {
            return STATE;
        }
        lookAhead();
        return outlook.mean;
    }

    // ---- what is seen

    public int see(int peg, int what, boolean could) {
        if (!now.isPeg(peg)) {
            return UNKNOWN;
        }
        if (what < 0 || what >= QUESTIONS) {
            return OUTSIDE;
        }
        int sorts = could ? WHO_COULD[what] : ALL_KINDS & ~WHO_COULD[what];
        return seen.append(peg, sorts) ? seen.size : FULL;
    }

    public int forget() {
        int had = seen.size;
        seen.size = 0;
        return had;
    }

    public int runs(int times, int seed, int what) {
        if (times < 1 || times > MAX_RUNS || seed < 0 || what < 0 || what > 2) {
            return OUTSIDE;
        }
        if (reads == 0) {
            return STATE;
        }
        long drawn = seed;
        int jumped = 0;
        int alone = 0;
        for (int run = 0; run < times; run++) {
            thought.copyFrom(now);
            int choices = thought.choices();
            // Each jump takes a peg off: there are no more jumps than pegs.
            for (int step = 0; step < MAX_PEGS && choices > 0; step++) {
                drawn = nextSeed(drawn);
                thought.leapByChoice((int) (drawn / 65536L % choices));
                jumped++;
                choices = thought.choices();
            }
            if (thought.onBoard == 1) {
                alone++;
            }
        }
        return what == 0 ? jumped : what == 1 ? alone : (int) drawn;
    }

    // ---- what is told of all

    public int image() {
        if (reads == 0) {
            return STATE;
        }
        keptState.copyFrom(now);
        keptSeen.copyFrom(seen);
        isKept = true;
        return now.jumps;
    }

    public int restore() {
        if (!isKept) {
            return STATE;
        }
        now.copyFrom(keptState);
        seen.copyFrom(keptSeen);
        isLooked = false;
        return now.jumps;
    }

    public int count(int what) {
        switch (what) {
            case 0:
                return grid.rows;
            case 1:
                return grid.columns;
            case 2:
                return Integer.bitCount(now.holes);
            case 3:
                return now.pegs;
            case 4:
                return now.onBoard;
            case 5:
                return now.choices();
            case 6:
                return now.jumps;
            case 7:
                return seen.size;
            case 8:
                return page.size;
            case 9:
                return reads;
            case 10:
                return adds;
            default:
                return OUTSIDE;
        }
    }

    public long digest() {
        long hash = 1307L;
        for (int peg = 0; peg < now.pegs; peg++) {
            for (int what = 0; what <= 4; what++) {
                hash = 31L * hash + peg(peg, what);
            }
        }
        for (int place = 0; place < grid.places; place++) {
            hash = 31L * hash + place(place, 0);
            hash = 31L * hash + place(place, 1);
        }
        if (reads > 0) {
            for (int what = 0; what <= 5; what++) {
                hash = 31L * hash + courses(what);
            }
            hash = 31L * hash + wins(0);
            hash = 31L * hash + wins(1);
            hash = 31L * hash + mean();
        }
        for (int index = 0; index < page.size; index++) {
            hash = 31L * hash + page.codeAt(index);
        }
        for (int what = 0; what <= 10; what++) {
            hash = 31L * hash + count(what);
        }
        return hash;
    }

    // ---- searching

    private void lookAhead() {
        if (!isLooked) {
            thought.copyFrom(now);
            look(thought, outcomes, 0);
            isLooked = true;
        }
    }

    private int fewestWithOneMore(int place) {
        thought.copyFrom(now);
        thought.addPlain(place);
        look(thought, outcomes, 0);
        return outlook.fewest;
    }

    /** Fills outcomes[depth] with what all courses from the state come to; the state is as before then. */
    private static void look(State state, Outcome[] outcomes, int depth) {
        if (depth < 0 || depth >= outcomes.length || outcomes[depth] == null) {
            return;
        }
        Outcome here = outcomes[depth];
        here.begin();
        // Each jump takes a peg off, so there is always a row behind.
        Outcome behind = depth + 1 < outcomes.length ? outcomes[depth + 1] : null;
        for (int peg = 0; peg < state.pegs && behind != null; peg++) {
            for (int direction = 0; direction < DIRECTIONS; direction++) {
                int target = state.targetOf(peg, direction);
                if (target != NONE) {
                    int home = state.homeOf(peg);
                    int over = state.neighbourOf(peg, direction);
                    state.leap(peg, over, target);
                    look(state, outcomes, depth + 1);
                    state.takeBack(peg, home, over, direction);
                    here.take(100 * peg + target, behind);
                }
            }
        }
        here.end(state.onBoard, state.aloneBit());
    }

    private static long nextSeed(long seed) {
        return (1103515245L * seed + 12345L) % 2147483648L;
    }

    // ---- kinds

    private static boolean hasBit(int bits, int index) {
        return index >= 0 && (bits >> index & 1) == 1;
    }

    private static boolean kindCould(int kind, int question) {
        return question >= 0 && question < QUESTIONS && hasBit(WHO_COULD[question], kind);
    }

    private static boolean kindGoes(int kind, int direction) {
        return direction >= 0 && direction < DIRECTIONS && hasBit(WHO_GOES[direction], kind);
    }

    private static int bestQuestion(int sorts) {
        if (sorts == 0) {
            return NONE;
        }
        int best = NONE;
        int fewestLeft = KINDS + 1;
        for (int question = 0; question < QUESTIONS; question++) {
            int left = Math.max(Integer.bitCount(sorts & WHO_COULD[question]),
                Integer.bitCount(sorts & ~WHO_COULD[question]));
            if (left < fewestLeft) {
                fewestLeft = left;
                best = question;
            }
        }
        return best;
    }

    /** The letters that have come, of which a board is read. */
    private static final class Page {
        private final int[] codes = new int[MAX_LETTERS];
        private int size;

        boolean append(int code) {
            if (size < 0 || size >= codes.length) {
                return false;
            }
            codes[size] = code;
            size++;
            return true;
        }

        int codeAt(int index) {
            return index >= 0 && index < size && index < codes.length ? codes[index] : NONE;
        }

        /** How many rows or columns the letter tells; 0 if it is no such digit. */
        int digitAt(int index) {
            int told = codeAt(index) - '0';
            return told >= MIN_SIDE && told <= MAX_SIDE ? told : 0;
        }

        int kindAt(int index) {
            int code = codeAt(index);
            for (int kind = 0; kind < KIND_LETTERS.length; kind++) {
                if (KIND_LETTERS[kind] == code) {
                    return kind;
                }
            }
            return NONE;
        }

        int placesTold() {
            return digitAt(0) * digitAt(1);
        }

        private int pegsBefore(int end) {
            int pegs = 0;
            for (int index = HEAD; index < end; index++) {
                if (kindAt(index) != NONE) {
                    pegs++;
                }
            }
            return pegs;
        }

        private boolean fits(int index) {
            if (index == 0) {
                return digitAt(0) > 0;
            }
            if (index == 1) {
                return digitAt(1) > 0 && placesTold() <= MAX_PLACES;
            }
            int code = codeAt(index);
            if (index == 2) {
                return code == ';';
            }
            if (index >= HEAD + placesTold()) {
                return false;
            }
            return code == '#' || code == '.' || kindAt(index) != NONE && pegsBefore(index) < MAX_PEGS;
        }

        int firstFault() {
            for (int index = 0; index < size; index++) {
                if (!fits(index)) {
                    return index;
                }
            }
            return size;
        }

        boolean isBoard() {
            return size == HEAD + placesTold() && firstFault() == size && pegsBefore(size) > 0;
        }
    }

    /** How many rows and columns there are, and which place is beside which. */
    private static final class Grid {
        private int rows;
        private int columns;
        private int places;
        private final int[] beside = new int[MAX_PLACES * DIRECTIONS];

        void lay(int newRows, int newColumns) {
            boolean isSmall = newRows > 0 && newRows <= MAX_SIDE && newColumns > 0 && newColumns <= MAX_SIDE;
            if (!isSmall || newRows * newColumns > MAX_PLACES) {
                return;
            }
            rows = newRows;
            columns = newColumns;
            places = newRows * newColumns;
            for (int row = 0; row < rows; row++) {
                for (int column = 0; column < columns; column++) {
                    for (int direction = 0; direction < DIRECTIONS; direction++) {
                        beside[(row * columns + column) * DIRECTIONS + direction] =
                            placeAt(row + ROW_STEPS[direction], column + COLUMN_STEPS[direction]);
                    }
                }
            }
        }

        private int placeAt(int row, int column) {
            boolean isThere = row >= 0 && row < rows && column >= 0 && column < columns;
            return isThere ? row * columns + column : NONE;
        }

        boolean has(int place) {
            return place >= 0 && place < MAX_PLACES && place < places;
        }

        int next(int place, int direction) {
            boolean isTold = has(place) && direction >= 0 && direction < DIRECTIONS;
            return isTold ? beside[place * DIRECTIONS + direction] : NONE;
        }
    }

    /** Where the holes are, of which kind the pegs are, and where they stand. */
    private static final class State {
        private final Grid grid;
        private int holes;
        private int pegs;
        private int onBoard;
        private int jumps;
        private final int[] kinds = new int[MAX_PEGS_THOUGHT];
        private final int[] homes = new int[MAX_PEGS_THOUGHT];
        // By the place, the other way round than homes: a jump asks which peg is beside.
        private final int[] tenants = new int[MAX_PLACES];

        State(Grid itsGrid) {
            grid = itsGrid;
        }

        /** Takes the holes and pegs of a page that is a board. */
        void read(Page page) {
            holes = 0;
            pegs = 0;
            onBoard = 0;
            jumps = 0;
            for (int place = 0; place < MAX_PLACES; place++) {
                tenants[place] = NONE;
                if (place < grid.places && page.codeAt(HEAD + place) != '#') {
                    holes |= 1 << place;
                    addPeg(page.kindAt(HEAD + place), place);
                }
            }
        }

        void addPlain(int place) {
            addPeg(PLAIN, place);
        }

        private void addPeg(int kind, int place) {
            if (kind == NONE || pegs < 0 || pegs >= kinds.length) {
                return;
            }
            int peg = pegs;
            pegs++;
            kinds[peg] = kind;
            homes[peg] = NONE;
            set(peg, place);
        }

        void copyFrom(State other) {
            holes = other.holes;
            pegs = other.pegs;
            onBoard = other.onBoard;
            jumps = other.jumps;
            for (int peg = 0; peg < MAX_PEGS_THOUGHT; peg++) {
                kinds[peg] = other.kinds[peg];
                homes[peg] = other.homes[peg];
            }
            for (int place = 0; place < MAX_PLACES; place++) {
                tenants[place] = other.tenants[place];
            }
        }

        boolean isPeg(int peg) {
            return peg >= 0 && peg < MAX_PEGS_THOUGHT && peg < pegs;
        }

        int kindOf(int peg) {
            return isPeg(peg) ? kinds[peg] : NONE;
        }

        int homeOf(int peg) {
            return isPeg(peg) ? homes[peg] : NONE;
        }

        void turn(int peg, int kind) {
            if (isPeg(peg)) {
                kinds[peg] = kind;
            }
        }

        boolean isHole(int place) {
            return grid.has(place) && hasBit(holes, place);
        }

        int pegIn(int place) {
            return grid.has(place) ? tenants[place] : NONE;
        }

        boolean isEmptyHole(int place) {
            return grid.has(place) && hasBit(holes, place) && tenants[place] == NONE;
        }

        void set(int peg, int place) {
            if (isPeg(peg) && grid.has(place)) {
                homes[peg] = place;
                tenants[place] = peg;
                onBoard++;
            }
        }

        private void lift(int peg) {
            if (isPeg(peg) && grid.has(homes[peg])) {
                tenants[homes[peg]] = NONE;
                homes[peg] = NONE;
                onBoard--;
            }
        }

        int neighbourOf(int peg, int direction) {
            return pegIn(grid.next(homeOf(peg), direction));
        }

        /** The place to which a peg can jump in that direction now, or NONE. */
        int targetOf(int peg, int direction) {
            int between = grid.next(homeOf(peg), direction);
            int over = pegIn(between);
            if (over == NONE || !kindGoes(kindOf(peg), direction) || !kindCould(kindOf(over), BE_JUMPED_OVER)) {
                return NONE;
            }
            int target = grid.next(between, direction);
            return isEmptyHole(target) ? target : NONE;
        }

        int targetsOf(int peg) {
            int targets = 0;
            for (int direction = 0; direction < DIRECTIONS; direction++) {
                int target = targetOf(peg, direction);
                if (target != NONE) {
                    targets |= 1 << target;
                }
            }
            return targets;
        }

        int directionTo(int peg, int place) {
            for (int direction = 0; direction < DIRECTIONS; direction++) {
                if (place != NONE && targetOf(peg, direction) == place) {
                    return direction;
                }
            }
            return NONE;
        }

        /** How many jumps there are now. */
        int choices() {
            int choices = 0;
            for (int peg = 0; peg < pegs; peg++) {
                choices += Integer.bitCount(targetsOf(peg));
            }
            return choices;
        }

        /** Jumps by the jump of that number, from 0, of those that there are. */
        void leapByChoice(int choice) {
            int ahead = choice;
            for (int peg = 0; peg < pegs; peg++) {
                for (int direction = 0; direction < DIRECTIONS; direction++) {
                    int target = targetOf(peg, direction);
                    if (target != NONE && ahead == 0) {
                        leap(peg, neighbourOf(peg, direction), target);
                        return;
                    }
                    if (target != NONE) {
                        ahead--;
                    }
                }
            }
        }

        void leap(int peg, int over, int target) {
            lift(over);
            lift(peg);
            if (kindCould(kindOf(peg), STAY)) {
                set(peg, target);
            }
        }

        void takeBack(int peg, int home, int over, int direction) {
            lift(peg);
            set(peg, home);
            set(over, grid.next(home, direction));
        }

        /** The place of the only peg on the board as a bit; 0 if there are more or none. */
        int aloneBit() {
            if (onBoard != 1) {
                return 0;
            }
            int bit = 0;
            for (int peg = 0; peg < pegs; peg++) {
                int home = homeOf(peg);
                if (home != NONE) {
                    bit = 1 << home;
                }
            }
            return bit;
        }
    }

    /** What all courses from some state come to. */
    private static final class Outcome {
        private int choices;
        private int fewest;
        private int first;
        private int ways;
        private int longest;
        private int shortest;
        private int alone;
        private int winning;
        // Till end(), what the mean comes to behind each jump, all together.
        private int mean;

        void begin() {
            choices = 0;
            fewest = 0;
            first = NONE;
            ways = 0;
            longest = 0;
            shortest = 0;
            alone = 0;
            winning = NONE;
            mean = 0;
        }

        /** Counts in a jump, told as a number, and what there is behind it. Jumps come from the least on. */
        void take(int jump, Outcome behind) {
            if (choices == 0 || behind.fewest < fewest) {
                fewest = behind.fewest;
                first = jump;
            }
            if (choices == 0 || behind.shortest + 1 < shortest) {
                shortest = behind.shortest + 1;
            }
            longest = Math.max(longest, behind.longest + 1);
            ways += behind.ways;
            alone |= behind.alone;
            if (winning == NONE && behind.winning == NONE) {
                winning = jump;
            }
            mean += behind.mean;
            choices++;
        }

        /** All jumps are counted in; without one, the course ends here with so many pegs on the board. */
        void end(int onBoard, int aloneBit) {
            if (choices > 0) {
                mean /= choices;
            } else {
                fewest = onBoard;
                ways = 1;
                alone = aloneBit;
                mean = 1000 * onBoard;
            }
        }
    }

    /** What is seen of the pegs: by each, of which sorts it leaves the peg, as bits. */
    private static final class Seen {
        private final int[] pegs = new int[MAX_SEEN];
        private final int[] sorts = new int[MAX_SEEN];
        private int size;

        boolean append(int peg, int itsSorts) {
            if (size < 0 || size >= MAX_SEEN) {
                return false;
            }
            pegs[size] = peg;
            sorts[size] = itsSorts;
            size++;
            return true;
        }

        int sortsOf(int peg) {
            int left = ALL_KINDS;
            for (int index = 0; index < size && index < MAX_SEEN; index++) {
                if (pegs[index] == peg) {
                    left &= sorts[index];
                }
            }
            return left;
        }

        void copyFrom(Seen other) {
            size = other.size;
            for (int index = 0; index < MAX_SEEN; index++) {
                pegs[index] = other.pegs[index];
                sorts[index] = other.sorts[index];
            }
        }
    }
}
