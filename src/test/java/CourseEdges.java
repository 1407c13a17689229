/** The edges of courses, and of promises 14 to 17, sentence by sentence. */
final class CourseEdges {
    private static final int NONE = PegField.NONE;
    // Nobody can jump: one peg, four that are crowded, seven stones; then nobody is on the board at all.
    private static final String ONE = "22;p...", CROWD = "22;pppp", STONES = "34;sssssss.....", OFF = "23;fp.###";
    // Two rows in which one can jump, whatever is done in the other.
    private static final String TWO_ROWS = "43;pp.###pp.###";
    // b0 over p1 to 2, then over p2 to 6; or b0 over p2 to 8; or p1 over p2 to 7: behind these two nobody can.
    private static final String CORNER = "33;bp..p....";
    // One course of six jumps: 4 to 2, 5 to 3, 4 to 0, 4 to 6, 4 to 8, 6 to 5.
    private static final String LONG = "43;.b...bpbpp.p";
    // Peg 6 to 9 is the only jump.
    private static final String LAST = "34;sssss###..pp";

    private final Sentences s;

    CourseEdges(Sentences itsSentences) {
        s = itsSentences;
    }

    void all() {
        termsCourse();
        termsFromNow();
        termsWays();
        termsFewest();
        termsFirst();
        termsLongest();
        termsAlone();
        termsWins();
        termsAdd();
        termsMeanWithoutAJump();
        termsMeanRounded();
        p14What();
        p14Refusals();
        p15What();
        p15Refusals();
        p16None();
        p16NoBoard();
        p16TwelveTimes();
        p16CountsOn();
        p17Mean();
        p17NoBoard();
    }

    private void courses(String board, int what, int want) {
        s.is("courses(" + what + ") on " + board, Due.on(board).courses(what), want);
    }

    private void wins(String board, int whether, int jump) {
        s.is("wins(0) on " + board, Due.on(board).wins(0), whether);
        s.is("wins(1) on " + board, Due.on(board).wins(1), jump);
    }

    private void add(String board, int want) {
        s.is("add() on " + board, Due.on(board).add(), want);
    }

    private void mean(String board, int want) {
        s.is("mean() on " + board, Due.on(board).mean(), want);
    }

    /** A board of which nobody is left. */
    private static PegField nobody() {
        PegField x = Due.on(OFF);
        x.jump(0, 2);
        return x;
    }

    // ---- what these words mean

    private void termsCourse() {
        s.of(0, "A COURSE is one JUMP behind the other, from how all is now, till there is no JUMP any more (also no JUMP at all, if there is none).");
        for (String board : new String[] {ONE, CROWD, STONES}) {
            courses(board, 2, 1);
            courses(board, 3, 0);
            courses(board, 4, 0);
        }
        s.is("ways of nobody", nobody().courses(2), 1);
        PegField x = Due.on(LONG);
        int[][] jumps = {{4, 2}, {5, 3}, {4, 0}, {4, 6}, {4, 8}, {6, 5}};
        for (int jump = 0; jump < jumps.length; jump++) {
            s.is("longest, from now, behind " + jump, x.courses(3), 6 - jump);
            s.is("a jump more: " + jump, x.jump(jumps[jump][0], jumps[jump][1]), 6 - jump);
        }
        s.is("till there is none", x.count(5), 0);
        s.is("longest, at the end", x.courses(3), 0);
        s.is("ways, at the end", x.courses(2), 1);
    }

    /** Whatever has been done: what was told ahead of it is told no more. */
    private void termsFromNow() {
        s.of(0, "from how all is now");
        PegField x = Due.on("24;pp..####");
        s.is("ways at first", x.courses(2), 1);
        s.is("longest at first", x.courses(3), 1);
        x.jump(0, 2);
        s.is("longest, jumped", x.courses(3), 0);
        x.put(1, 1);
        s.is("ways, put", x.courses(2), 2);
        s.is("alone, put", x.courses(5), 1 << 0 | 1 << 3);
        x.plug(0);
        s.is("ways, plugged", x.courses(2), 1);
        s.is("alone, plugged", x.courses(5), 1 << 3);
        x.image();
        x.plug(3);
        s.is("longest, plugged", x.courses(3), 0);
        x.bore(3);
        s.is("longest, bored", x.courses(3), 1);
        x.bore(0);
        s.is("ways, bored", x.courses(2), 2);
        x.be(1, 2);
        s.is("alone, a stone beside", x.courses(5), 1 << 3);
        x.be(0, 2);
        s.is("longest, two stones", x.courses(3), 0);
        x.restore();
        s.is("longest, restored", x.courses(3), 1);
        x.add();
        s.is("longest, behind add()", x.courses(3), 1);
        x.runs(9, 9, 0);
        s.is("longest, behind runs()", x.courses(3), 1);
        Due.type(x, CORNER);
        x.board();
        s.is("ways, another board", x.courses(2), 3);
        Due.type(x, ONE);
        x.board();
        s.is("mean, another board", x.mean(), 1000);
        s.is("wins, another board", x.wins(0), 0);
    }

    private void termsWays() {
        s.of(0, "WAYS: how many COURSES there are.");
        courses(ONE, 2, 1);
        courses("23;pp.###", 2, 1);
        courses("24;.pp.####", 2, 2);
        // The same two jumps in another order are another course.
        courses(TWO_ROWS, 2, 2);
        courses(CORNER, 2, 3);
        courses("34;.bb.bbb..bb.", 2, 384);
    }

    private void termsFewest() {
        s.of(0, "FEWEST: how few PEGS can be left by a COURSE.");
        courses(ONE, 0, 1);
        courses(CROWD, 0, 4);
        courses(STONES, 0, 7);
        courses(OFF, 0, 0);
        courses(LONG, 0, 1);
        courses(CORNER, 0, 1);
        courses("24;.fp.####", 0, 0);
        PegField x = nobody();
        s.is("nobody", x.courses(0), 0);
        x.put(1, 1);
        s.is("one, put", x.courses(0), 1);
    }

    private void termsFirst() {
        s.of(0, "FIRST: by which JUMP such a COURSE begins: told as 100 times the PEG, and the PLACE to which it goes: of like ones the least; none, if there is no JUMP.");
        courses(ONE, 1, NONE);
        courses(CROWD, 1, NONE);
        courses(STONES, 1, NONE);
        s.is("nobody", nobody().courses(1), NONE);
        courses("23;pp.###", 1, 2);
        courses("23;.pp###", 1, 100);
        courses(LAST, 1, 609);
        courses("33;....p...x", 1, 100);
        // Of like ones the least: by the peg, and of one peg by the place.
        courses("24;.pp.####", 1, 3);
        courses(TWO_ROWS, 1, 2);
        courses("33;bp.p##.##", 1, 2);
        courses("33;##b#pp.#.", 1, 6);
        // The least jump, by which more are left, is no such one: p0 over f1 to 3, or f1 over p0 to 0.
        courses("24;.pf.####", 1, 100);
    }

    private void termsLongest() {
        s.of(0, "LONGEST, SHORTEST: how many JUMPS a COURSE has at most, at least.");
        int[][] due = {{0, 0}, {0, 0}, {0, 0}, {1, 1}, {2, 2}, {2, 1}, {6, 3}};
        String[] boards = {ONE, CROWD, STONES, OFF, TWO_ROWS, CORNER, LONG};
        for (int index = 0; index < boards.length; index++) {
            courses(boards[index], 3, due[index][0]);
            courses(boards[index], 4, due[index][1]);
        }
        s.is("nobody, longest", nobody().courses(3), 0);
        s.is("nobody, shortest", nobody().courses(4), 0);
    }

    private void termsAlone() {
        s.of(0, "ALONE: at which PLACES the only PEG that is left can be, behind a COURSE, as bits.");
        for (int place = 0; place < 12; place++) {
            String board = "34;" + ".".repeat(place) + "s" + ".".repeat(11 - place);
            courses(board, 5, 1 << place);
        }
        courses("22;pp..", 5, 0);
        courses(STONES, 5, 0);
        courses(TWO_ROWS, 5, 0);
        courses(OFF, 5, 0);
        courses("24;.pp.####", 5, 1 << 0 | 1 << 3);
        courses("24;.fp.####", 5, 1 << 0);
        courses(CORNER, 5, 1 << 6);
        courses(LONG, 5, 1 << 5);
        s.is("nobody", nobody().courses(5), 0);
    }

    private void termsWins() {
        s.of(0, "WINS: whether who JUMPS next (any PEG) wins, if two do so in turn, who can no more has lost, and both do as well as can be; by which JUMP, told as above: the least; none.");
        for (String board : new String[] {ONE, CROWD, STONES}) {
            wins(board, 0, NONE);
        }
        s.is("nobody", nobody().wins(0), 0);
        s.is("nobody, by none", nobody().wins(1), NONE);
        wins("23;pp.###", 1, 2);
        wins(OFF, 1, 2);
        wins(LAST, 1, 609);
        // The other one jumps last, with another peg.
        wins(TWO_ROWS, 0, NONE);
        wins("24;pp.p####", 0, NONE);
        // Behind b0 to 2 the other one can jump, behind b0 to 8 no more.
        wins(CORNER, 1, 8);
        // Both jumps win: the least.
        wins("24;.pp.####", 1, 3);
        wins(LONG, 0, NONE);
        PegField x = Due.on(LONG);
        x.jump(4, 2);
        s.is("the other one wins then", x.wins(0), 1);
        s.is("the other one wins by", x.wins(1), 208);
    }

    private void termsAdd() {
        s.of(0, "ADD: in which empty HOLE one more plain PEG should be, so that FEWEST is 1 then: the least; none.");
        add("24;p...####", 1);
        add("24;.p..####", 0);
        add("24;#p..####", 2);
        // No such hole: no room to jump, no hole that is empty, no hole at all.
        add(ONE, NONE);
        add(CROWD, NONE);
        add("24;p#######", NONE);
        add("34;ppppppp#####", NONE);
        add(STONES, NONE);
        // The plain one goes not aslant, but is jumped over aslant.
        add("33;s...#....", 1);
        add("33;x........", 4);
        add("33;x...#....", NONE);
        // Where none would be left, FEWEST is 0: that is not it.
        add("24;f..#####", NONE);
        // Seven, and an eighth: in 8 it jumps to 0, and of these seven one can be left; in 0, 2, 6, 7 it is of no use.
        add("34;.b.bbp...ppb", 8);
        courses("34;pb.b.p...ppb", 0, 1);
        courses("34;.b.bbp...ppb", 0, 2);
        s.is("one to nobody: the first hole", nobody().add(), 0);
        PegField x = nobody();
        x.plug(0);
        s.is("one to nobody: not where it is plugged", x.add(), 1);
        x.plug(1);
        x.plug(2);
        s.is("one to nobody: no hole is left", x.add(), NONE);
    }

    private void termsMeanWithoutAJump() {
        s.of(0, "MEAN: if each JUMP is one of those that there are, each as likely, till there is none: how many PEGS are left: told of thousandths: if there is no JUMP, a thousand times those that are on the board");
        mean(ONE, 1000);
        mean(CROWD, 4000);
        mean(STONES, 7000);
        s.is("nobody", nobody().mean(), 0);
        PegField x = Due.on("24;pp..####");
        x.jump(0, 2);
        s.is("who is OFF is not on the board", x.mean(), 1000);
    }

    private void termsMeanRounded() {
        s.of(0, "else what it comes to behind each JUMP, all together, by how many these are, rounded down (so each time).");
        mean("23;pp.###", 1000);
        mean("24;.fp.####", 500);
        // 1000, 2000 and 2000 by three.
        mean(CORNER, 1666);
        // 2333 (1000, 3000 and 3000 by three) and 2666 (2000, 3000 and 3000) by two; rounded at the end alone: 2500.
        mean("34;.bff..x...bb", 2499);
        mean("43;p.bpbpb.....", 2999);
    }

    // ---- promises 14 to 17

    private void p14What() {
        s.of(14, "what = 0 FEWEST, 1 FIRST (NONE), 2 WAYS, 3 LONGEST, 4 SHORTEST, 5 ALONE, as bits.");
        int[] due = {1, 2, 3, 2, 1, 1 << 6};
        PegField x = Due.on(CORNER);
        for (int what = 0; what <= 5; what++) {
            s.is("courses(" + what + ")", x.courses(what), due[what]);
        }
        courses(ONE, 1, NONE);
    }

    private void p14Refusals() {
        s.of(14, "OUTSIDE; STATE: no BOARD.");
        PegField x = Due.on(CORNER);
        PegField none = new PegField();
        for (int what : new int[] {Integer.MIN_VALUE, -1, 6, 7, 100, Integer.MAX_VALUE}) {
            s.refuses(x, "courses(" + what + ")", PegField.OUTSIDE, () -> x.courses(what));
            s.refuses(none, "courses(" + what + ") without a board", PegField.OUTSIDE, () -> none.courses(what));
        }
        for (int what = 0; what <= 5; what++) {
            int asked = what;
            s.refuses(none, "courses(" + what + ") without a board", PegField.STATE, () -> none.courses(asked));
        }
        Due.type(none, ONE);
        s.refuses(none, "courses(0) of a board that is not read", PegField.STATE, () -> none.courses(0));
        none.board();
        s.is("courses(0) of it", none.courses(0), 1);
    }

    private void p15What() {
        s.of(15, "what = 0 WINS (1, 0), 1 by which JUMP (NONE).");
        wins("23;.pp###", 1, 100);
        wins(ONE, 0, NONE);
    }

    private void p15Refusals() {
        s.of(15, "OUTSIDE; STATE: no BOARD.");
        PegField x = Due.on(CORNER);
        PegField none = new PegField();
        for (int what : new int[] {Integer.MIN_VALUE, -1, 2, 3, 100, Integer.MAX_VALUE}) {
            s.refuses(x, "wins(" + what + ")", PegField.OUTSIDE, () -> x.wins(what));
            s.refuses(none, "wins(" + what + ") without a board", PegField.OUTSIDE, () -> none.wins(what));
        }
        s.refuses(none, "wins(0) without a board", PegField.STATE, () -> none.wins(0));
        s.refuses(none, "wins(1) without a board", PegField.STATE, () -> none.wins(1));
    }

    private void p16None() {
        s.of(16, "ADD; NONE.");
        add("24;p...####", 1);
        add("24;...p####", 2);
        add(ONE, NONE);
        PegField x = Due.on("24;p...####");
        long before = x.digest();
        x.image();
        x.add();
        s.is("pegs", x.count(3), 1);
        s.is("nobody is in 1", x.place(1, 1), NONE);
        s.is("how often", x.count(10), 1);
        // The last number told by digest() is how often.
        s.is("nothing else is changed", x.digest(), before + 1);
    }

    private void p16NoBoard() {
        s.of(16, "STATE: no BOARD");
        PegField none = new PegField();
        for (int done = 0; done < 13; done++) {
            s.refuses(none, "add", PegField.STATE, none::add);
        }
        s.is("none was done", none.count(10), 0);
        Due.type(none, "24;p...####");
        none.board();
        s.is("add on a board", none.add(), 1);
    }

    private void p16TwelveTimes() {
        s.of(16, "or add() was done 12 times ever");
        PegField x = Due.on("24;p...####");
        for (int done = 1; done <= 12; done++) {
            s.is("add " + done, x.add(), 1);
            s.is("how often", x.count(10), done);
        }
        for (int more = 0; more < 3; more++) {
            s.refuses(x, "add once more", PegField.STATE, x::add);
            s.is("how often", x.count(10), 12);
        }
        PegField none = Due.on(ONE);
        for (int done = 1; done <= 12; done++) {
            s.is("add that finds none " + done, none.add(), NONE);
        }
        s.refuses(none, "add once more", PegField.STATE, none::add);
    }

    private void p16CountsOn() {
        s.of(16, "(it counts on, whatever is read or restored).");
        PegField x = Due.on("24;p...####");
        x.image();
        for (int done = 1; done <= 11; done++) {
            x.add();
            s.is("restore " + done, x.restore(), 0);
            s.is("how often", x.count(10), done);
        }
        Due.type(x, "24;.p..####");
        x.board();
        s.is("how often, another board", x.count(10), 11);
        x.image();
        s.is("the twelfth", x.add(), 0);
        s.refuses(x, "the thirteenth", PegField.STATE, x::add);
        x.restore();
        s.refuses(x, "the thirteenth, restored", PegField.STATE, x::add);
        Due.type(x, "24;p...####");
        x.board();
        s.refuses(x, "the thirteenth, another board", PegField.STATE, x::add);
    }

    private void p17Mean() {
        s.of(17, "MEAN.");
        mean(LONG, 2250);
        PegField x = Due.on(CORNER);
        x.jump(0, 2);
        s.is("behind a jump", x.mean(), 1000);
        x.jump(0, 6);
        s.is("at the end", x.mean(), 1000);
    }

    private void p17NoBoard() {
        s.of(17, "STATE: no BOARD.");
        PegField none = new PegField();
        s.refuses(none, "mean", PegField.STATE, none::mean);
        Due.type(none, "22;....");
        none.board();
        s.refuses(none, "mean, of a text that is none", PegField.STATE, none::mean);
    }
}
