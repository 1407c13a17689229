import java.util.ArrayList;
import java.util.Arrays;
import java.util.List;

/**
 * The document again, written another way than the program: each course is told out in full and all answers are
 * read off the list of courses. Slow, and plain on purpose.
 */
final class Model {
    static final int NONE = -1, UNKNOWN = -101, OUTSIDE = -102, STATE = -103, FULL = -104;

    /** Where all is: holes by place, kinds and places by peg. Never changed, only copied. */
    private record Table(int rows, int columns, boolean[] holes, int[] kinds, int[] places) {
        Table copy() {
            return new Table(rows, columns, holes.clone(), kinds.clone(), places.clone());
        }

        int pegIn(int place) {
            for (int peg = 0; peg < places.length; peg++) {
                if (places[peg] == place) {
                    return peg;
                }
            }
            return NONE;
        }

        int onBoard() {
            return (int) Arrays.stream(places).filter(place -> place != NONE).count();
        }

        List<Integer> onesOnBoard() {
            List<Integer> found = new ArrayList<>();
            for (int place : places) {
                if (place != NONE) {
                    found.add(place);
                }
            }
            return found;
        }

        boolean can(int peg, int to) {
            int from = places[peg];
            if (from == NONE || !holes[to] || pegIn(to) != NONE) {
                return false;
            }
            int down = to / columns - from / columns;
            int right = to % columns - from % columns;
            boolean straight = Math.abs(down) + Math.abs(right) == 2 && down * right == 0;
            boolean aslant = Math.abs(down) == 2 && Math.abs(right) == 2;
            int kind = kinds[peg];
            if (!(straight && kind != 1 || aslant && (kind == 1 || kind == 4))) {
                return false;
            }
            int over = pegIn((from + to) / 2);
            return over != NONE && kinds[over] != 2;
        }

        Table after(int peg, int to) {
            Table next = copy();
            next.places[pegIn((places[peg] + to) / 2)] = NONE;
            next.places[peg] = kinds[peg] == 3 ? NONE : to;
            return next;
        }

        /** The jumps that there are, each a peg and a place, from the least on. */
        List<int[]> jumps() {
            List<int[]> found = new ArrayList<>();
            for (int peg = 0; peg < places.length; peg++) {
                for (int to = 0; to < rows * columns; to++) {
                    if (can(peg, to)) {
                        found.add(new int[] {peg, to});
                    }
                }
            }
            return found;
        }

        int targets(int peg) {
            int bits = 0;
            for (int to = 0; to < rows * columns; to++) {
                bits |= can(peg, to) ? 1 << to : 0;
            }
            return bits;
        }

        int holesTold() {
            int told = 0;
            for (boolean hole : holes) {
                told += hole ? 1 : 0;
            }
            return told;
        }
    }

    private record Course(int first, int length, Table end) { }

    private record Sight(int peg, int what, boolean could) { }

    private String page = "";
    private Table now = new Table(0, 0, new boolean[0], new int[0], new int[0]);
    private int jumped;
    private List<Sight> seen = new ArrayList<>();
    private Table keptTable;
    private int keptJumped;
    private List<Sight> keptSeen;
    private int reads;
    private int adds;

    int letter(int code) {
        if (code < 32 || code > 126) {
            return OUTSIDE;
        }
        if (page.length() == 18) {
            return FULL;
        }
        page += (char) code;
        return page.length();
    }

    int blank() {
        int had = page.length();
        page = "";
        return had;
    }

    private static boolean begins(String text) {
        String head = "(2(2|3|4)?|3(2|3|4)?|4(2|3)?)?";
        if (text.length() < 3) {
            return text.matches(head);
        }
        if (!text.substring(0, 2).matches(head) || text.charAt(2) != ';') {
            return false;
        }
        String signs = text.substring(3);
        return signs.length() <= (text.charAt(0) - '0') * (text.charAt(1) - '0')
            && signs.matches("[#.]*([pxsfb][#.]*){0,7}");
    }

    int fault() {
        for (int length = 1; length <= page.length(); length++) {
            if (!begins(page.substring(0, length))) {
                return length - 1;
            }
        }
        return page.length();
    }

    int board() {
        if (!page.matches("[2-4][2-4];[#.pxsfb]*") || !begins(page) || !page.matches(".*[pxsfb].*")) {
            return STATE;
        }
        int rows = page.charAt(0) - '0';
        int columns = page.charAt(1) - '0';
        if (page.length() != 3 + rows * columns) {
            return STATE;
        }
        String signs = page.substring(3);
        int pegs = signs.replaceAll("[#.]", "").length();
        now = new Table(rows, columns, new boolean[rows * columns], new int[pegs], new int[pegs]);
        int peg = 0;
        for (int place = 0; place < signs.length(); place++) {
            now.holes[place] = signs.charAt(place) != '#';
            int kind = "pxsfb".indexOf(signs.charAt(place));
            if (kind >= 0) {
                now.kinds[peg] = kind;
                now.places[peg] = place;
                peg++;
            }
        }
        page = "";
        jumped = 0;
        seen.clear();
        keptTable = null;
        reads++;
        return pegs;
    }

    private boolean noPeg(int peg) {
        return peg < 0 || peg >= now.places.length;
    }

    private boolean noPlace(int place) {
        return place < 0 || place >= now.holes.length;
    }

    private static boolean kindCould(int kind, int what) {
        switch (what) {
            case 0:
                return kind != 1;
            case 1:
                return kind == 1 || kind == 4;
            case 2:
                return kind != 2;
            default:
                return kind != 3;
        }
    }

    private List<Integer> sorts(int peg) {
        List<Integer> left = new ArrayList<>(List.of(0, 1, 2, 3, 4));
        for (Sight sight : seen) {
            if (sight.peg == peg) {
                left.removeIf(kind -> kindCould(kind, sight.what) != sight.could);
            }
        }
        return left;
    }

    private int ask(int peg) {
        List<Integer> left = sorts(peg);
        int best = NONE;
        int fewest = 99;
        for (int what = 0; what <= 3 && !left.isEmpty(); what++) {
            int yes = 0;
            for (int kind : left) {
                yes += kindCould(kind, what) ? 1 : 0;
            }
            int worst = Math.max(yes, left.size() - yes);
            if (worst < fewest) {
                fewest = worst;
                best = what;
            }
        }
        return best;
    }

    int peg(int peg, int what) {
        if (noPeg(peg)) {
            return UNKNOWN;
        }
        switch (what) {
            case 0:
                return now.kinds[peg];
            case 1:
                return now.places[peg];
            case 2:
                return now.targets(peg);
            case 3:
                return sorts(peg).stream().mapToInt(kind -> 1 << kind).sum();
            case 4:
                return ask(peg);
            default:
                return OUTSIDE;
        }
    }

    int as(int peg, int kind) {
        if (noPeg(peg)) {
            return UNKNOWN;
        }
        if (kind < 0 || kind > 4) {
            return OUTSIDE;
        }
        int own = now.kinds[peg];
        return kind == 0 || kind == own || kind == 1 && own == 4 ? peg : NONE;
    }

    int place(int place, int what) {
        if (noPlace(place)) {
            return UNKNOWN;
        }
        if (what < 0 || what > 1) {
            return OUTSIDE;
        }
        return what == 1 ? now.pegIn(place) : now.holes[place] ? 1 : 0;
    }

    int jump(int peg, int place) {
        if (noPeg(peg) || noPlace(place)) {
            return UNKNOWN;
        }
        if (!now.can(peg, place)) {
            return STATE;
        }
        now = now.after(peg, place);
        jumped++;
        return now.onBoard();
    }

    int put(int peg, int place) {
        if (noPeg(peg) || noPlace(place)) {
            return UNKNOWN;
        }
        if (now.places[peg] != NONE || !now.holes[place] || now.pegIn(place) != NONE) {
            return STATE;
        }
        now.places[peg] = place;
        return now.onBoard();
    }

    int plug(int place) {
        if (noPlace(place)) {
            return UNKNOWN;
        }
        if (!now.holes[place] || now.pegIn(place) != NONE) {
            return STATE;
        }
        now.holes[place] = false;
        return now.holesTold();
    }

    int bore(int place) {
        if (noPlace(place)) {
            return UNKNOWN;
        }
        if (now.holes[place]) {
            return STATE;
        }
        now.holes[place] = true;
        return now.holesTold();
    }

    int be(int peg, int kind) {
        if (noPeg(peg)) {
            return UNKNOWN;
        }
        if (kind < 0 || kind > 4) {
            return OUTSIDE;
        }
        int was = now.kinds[peg];
        now.kinds[peg] = kind;
        return was;
    }

    private static void tell(Table table, int first, int length, List<Course> told) {
        List<int[]> jumps = table.jumps();
        if (jumps.isEmpty()) {
            told.add(new Course(first, length, table));
        }
        for (int[] jump : jumps) {
            int begun = length == 0 ? 100 * jump[0] + jump[1] : first;
            tell(table.after(jump[0], jump[1]), begun, length + 1, told);
        }
    }

    private static List<Course> coursesFrom(Table table) {
        List<Course> told = new ArrayList<>();
        tell(table, NONE, 0, told);
        return told;
    }

    private static int fewest(List<Course> told) {
        return told.stream().mapToInt(course -> course.end.onBoard()).min().getAsInt();
    }

    int courses(int what) {
        if (what < 0 || what > 5) {
            return OUTSIDE;
        }
        if (reads == 0) {
            return STATE;
        }
        List<Course> told = coursesFrom(now);
        switch (what) {
            case 0:
                return fewest(told);
            case 1:
                int least = fewest(told);
                return told.stream().filter(course -> course.end.onBoard() == least)
                    .mapToInt(course -> course.first).min().getAsInt();
            case 2:
                return told.size();
            case 3:
                return told.stream().mapToInt(course -> course.length).max().getAsInt();
            case 4:
                return told.stream().mapToInt(course -> course.length).min().getAsInt();
            default:
                return told.stream().filter(course -> course.end.onBoard() == 1)
                    .mapToInt(course -> 1 << course.end.onesOnBoard().get(0)).reduce(0, (a, b) -> a | b);
        }
    }

    private static int winningJump(Table table) {
        for (int[] jump : table.jumps()) {
            if (winningJump(table.after(jump[0], jump[1])) == NONE) {
                return 100 * jump[0] + jump[1];
            }
        }
        return NONE;
    }

    int wins(int what) {
        if (what < 0 || what > 1) {
            return OUTSIDE;
        }
        if (reads == 0) {
            return STATE;
        }
        int jump = winningJump(now);
        return what == 1 ? jump : jump == NONE ? 0 : 1;
    }

    int add() {
        if (reads == 0 || adds == 12) {
            return STATE;
        }
        adds++;
        for (int place = 0; place < now.holes.length; place++) {
            if (now.holes[place] && now.pegIn(place) == NONE) {
                int pegs = now.places.length;
                Table more = new Table(now.rows, now.columns, now.holes,
                    Arrays.copyOf(now.kinds, pegs + 1), Arrays.copyOf(now.places, pegs + 1));
                more.places[pegs] = place;
                if (fewest(coursesFrom(more)) == 1) {
                    return place;
                }
            }
        }
        return NONE;
    }

    private static int meanOf(Table table) {
        List<int[]> jumps = table.jumps();
        if (jumps.isEmpty()) {
            return 1000 * table.onBoard();
        }
        int together = 0;
        for (int[] jump : jumps) {
            together += meanOf(table.after(jump[0], jump[1]));
        }
        return together / jumps.size();
    }

    int mean() {
        return reads == 0 ? STATE : meanOf(now);
    }

    int see(int peg, int what, boolean could) {
        if (noPeg(peg)) {
            return UNKNOWN;
        }
        if (what < 0 || what > 3) {
            return OUTSIDE;
        }
        if (seen.size() == 6) {
            return FULL;
        }
        seen.add(new Sight(peg, what, could));
        return seen.size();
    }

    int forget() {
        int had = seen.size();
        seen.clear();
        return had;
    }

    int runs(int times, int seed, int what) {
        if (times < 1 || times > 40 || seed < 0 || what < 0 || what > 2) {
            return OUTSIDE;
        }
        if (reads == 0) {
            return STATE;
        }
        long drawn = seed;
        int jumps = 0;
        int alone = 0;
        for (int run = 0; run < times; run++) {
            Table table = now;
            List<int[]> choices = table.jumps();
            while (!choices.isEmpty()) {
                drawn = (1103515245L * drawn + 12345L) % (1L << 31);
                int[] jump = choices.get((int) (drawn / 65536 % choices.size()));
                table = table.after(jump[0], jump[1]);
                choices = table.jumps();
                jumps++;
            }
            alone += table.onBoard() == 1 ? 1 : 0;
        }
        return what == 0 ? jumps : what == 1 ? alone : (int) drawn;
    }

    int image() {
        if (reads == 0) {
            return STATE;
        }
        keptTable = now.copy();
        keptJumped = jumped;
        keptSeen = new ArrayList<>(seen);
        return jumped;
    }

    int restore() {
        if (keptTable == null) {
            return STATE;
        }
        now = keptTable.copy();
        jumped = keptJumped;
        seen = new ArrayList<>(keptSeen);
        return jumped;
    }

    int count(int what) {
        int[] told = {now.rows, now.columns, now.holesTold(), now.places.length, now.onBoard(), now.jumps().size(),
            jumped, seen.size(), page.length(), reads, adds};
        return what < 0 || what > 10 ? OUTSIDE : told[what];
    }

    long digest() {
        List<Integer> numbers = new ArrayList<>();
        for (int peg = 0; peg < now.places.length; peg++) {
            for (int what = 0; what <= 4; what++) {
                numbers.add(peg(peg, what));
            }
        }
        for (int place = 0; place < now.holes.length; place++) {
            numbers.add(place(place, 0));
            numbers.add(place(place, 1));
        }
        for (int what = 0; what <= 5 && reads > 0; what++) {
            numbers.add(courses(what));
        }
        if (reads > 0) {
            numbers.addAll(List.of(wins(0), wins(1), mean()));
        }
        page.chars().forEach(numbers::add);
        for (int what = 0; what <= 10; what++) {
            numbers.add(count(what));
        }
        long hash = 1307;
        for (int number : numbers) {
            hash = 31 * hash + number;
        }
        return hash;
    }
}
