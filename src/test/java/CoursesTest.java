/** Promises 14 to 17: courses, wins, add, mean. */
public final class CoursesTest {
    private static final Due due = new Due();

    public static void main(String[] args) {
        courses();
        coursesByHand();
        coursesFollowWhatIsDone();
        eachIsLookedUp();
        nothingIsDoneByLooking();
        refusals();
        add();
        addEver();
        due.end();
    }

    /** Due in order: FEWEST, FIRST, WAYS, LONGEST, SHORTEST, ALONE; WINS, by which jump; MEAN. */
    private static void all(PegField x, String board, int... want) {
        for (int what = 0; what <= 5; what++) {
            due.is("courses(" + what + ") of " + board, x.courses(what), want[what]);
        }
        due.is("wins(0) of " + board, x.wins(0), want[6]);
        due.is("wins(1) of " + board, x.wins(1), want[7]);
        due.is("mean() of " + board, x.mean(), want[8]);
    }

    private static void all(String board, int... want) {
        all(Due.on(board), board, want);
    }

    private static void courses() {
        all("22;p...", 1, -1, 1, 0, 0, 1, 0, -1, 1000);
        all("22;...p", 1, -1, 1, 0, 0, 8, 0, -1, 1000);
        all("22;pppp", 4, -1, 1, 0, 0, 0, 0, -1, 4000);
        all("23;pp.###", 1, 2, 1, 1, 1, 4, 1, 2, 1000);
        all("23;.pp###", 1, 100, 1, 1, 1, 1, 1, 100, 1000);
        all("24;.pp.####", 1, 3, 2, 1, 1, 9, 1, 3, 1000);
        all("24;pp.p####", 1, 2, 1, 2, 2, 2, 0, -1, 1000);
        all("23;fp.###", 0, 2, 1, 1, 1, 0, 1, 2, 0);
        all("24;.fp.####", 0, 3, 2, 1, 1, 1, 1, 3, 500);
        all("24;.pf.####", 0, 100, 2, 1, 1, 8, 1, 3, 500);
        all("23;ps.###", 2, -1, 1, 0, 0, 0, 0, -1, 2000);
        all("23;sp.###", 1, 2, 1, 1, 1, 4, 1, 2, 1000);
        all("33;x...p....", 1, 8, 1, 1, 1, 256, 1, 8, 1000);
        all("33;b...b....", 1, 8, 1, 1, 1, 256, 1, 8, 1000);
        all("33;....p...x", 1, 100, 1, 1, 1, 1, 1, 100, 1000);
        // Two jumps of one peg, as good one as the other: the least.
        all("33;bp.p##.##", 2, 2, 2, 1, 1, 0, 1, 2, 2000);
        all("33;##b#pp.#.", 2, 6, 2, 1, 1, 0, 1, 6, 2000);
    }

    /** Boards whose courses are told by hand beside them. */
    private static void coursesByHand() {
        // p0 over p1 cannot, p1 over p0 to 0; then p1 in 0 and p2 in 3 stay.
        all("24;.ppp####", 2, 100, 1, 1, 1, 0, 1, 100, 2000);
        // A column of four: p0 in 2 over p1 in 4 to 6, p1 over p0 to 0.
        all("42;#.p.p.#.", 2, -1, 1, 0, 0, 0, 0, -1, 2000);
        all("42;..p.p...", 1, 6, 2, 1, 1, 65, 1, 6, 1000);
        // p0 in 1, p1 in 2, f2 in 6: p0 to 3 (2 left, none jumps then), p1 to 0 (2 left, none then).
        all("24;.pp...f.", 2, 3, 2, 1, 1, 0, 1, 3, 2000);
        // p0 over p1 to 2; then f3 in 6 over p2 in 3 to 0, where p0 was: p0 and s4 are left.
        all("33;pp.p..f.s", 2, 2, 1, 2, 2, 0, 0, -1, 2000);
        // b0 over p1 to 2, then over p2 to 6; or b0 over p2 to 8; or p1 over p2 to 7.
        all("33;bp..p....", 1, 2, 3, 2, 1, 64, 1, 8, 1666);
        // b0 over f1 to 2, then over p2 to 6; or b0 over p2 to 8; or f1 over p2, and off.
        all("33;bf..p#...", 1, 2, 3, 2, 1, 65, 1, 8, 1333);
    }

    private static void coursesFollowWhatIsDone() {
        PegField x = Due.on("24;.pp.####");
        all(x, "first", 1, 3, 2, 1, 1, 9, 1, 3, 1000);
        x.plug(3);
        all(x, "3 plugged", 1, 100, 1, 1, 1, 1, 1, 100, 1000);
        x.bore(3);
        all(x, "3 bored", 1, 3, 2, 1, 1, 9, 1, 3, 1000);
        x.be(0, 3);
        all(x, "0 frail", 0, 3, 2, 1, 1, 1, 1, 3, 500);
        x.image();
        x.be(0, 2);
        all(x, "0 a stone", 1, 3, 1, 1, 1, 8, 1, 3, 1000);
        x.restore();
        all(x, "0 frail again", 0, 3, 2, 1, 1, 1, 1, 3, 500);
        x.jump(0, 3);
        all(x, "0 jumped", 0, -1, 1, 0, 0, 0, 0, -1, 0);
        x.put(1, 2);
        all(x, "1 put", 1, -1, 1, 0, 0, 4, 0, -1, 1000);
        x.add();
        all(x, "add thought", 1, -1, 1, 0, 0, 4, 0, -1, 1000);
        x.runs(3, 1, 0);
        all(x, "runs thought", 1, -1, 1, 0, 0, 4, 0, -1, 1000);
        Due.type(x, "23;fp.###");
        x.board();
        all(x, "another board", 0, 2, 1, 1, 1, 0, 1, 2, 0);
    }

    /** Each asked for by itself, first of all calls after something was done. */
    private static void eachIsLookedUp() {
        PegField x = Due.on("24;.fp.####");
        due.is("mean at first", x.mean(), 500);
        x.plug(3);
        due.is("mean then", x.mean(), 1000);
        x.bore(3);
        due.is("wins then", x.wins(1), 3);
        x.plug(3);
        due.is("wins by another", x.wins(1), 100);
        x.jump(1, 0);
        due.is("wins no more", x.wins(0), 0);
        x.put(0, 1);
        due.is("courses then", x.courses(5), 4);
        due.is("courses, FIRST", x.courses(1), 102);
        x.be(0, 2);
        due.is("mean of the stone", x.mean(), 2000);
    }

    private static void nothingIsDoneByLooking() {
        PegField x = Due.on("34;bbfpx...sp..");
        long before = x.digest();
        for (int what = 0; what <= 5; what++) {
            x.courses(what);
        }
        x.wins(0);
        x.wins(1);
        x.mean();
        x.runs(40, 7, 0);
        due.is("digest after looking", x.digest(), before);
        x.add();
        due.is("pegs after add", x.count(3), 7);
        due.is("pegs on the board after add", x.count(4), 7);
        due.is("jumps after add", x.count(6), 0);
    }

    private static void refusals() {
        PegField none = new PegField();
        PegField x = Due.on("22;p...");
        due.is("courses(6)", x.courses(6), PegField.OUTSIDE);
        due.is("courses(-1)", x.courses(-1), PegField.OUTSIDE);
        due.is("wins(2)", x.wins(2), PegField.OUTSIDE);
        due.is("wins(-1)", x.wins(-1), PegField.OUTSIDE);
        due.is("courses(6), no board", none.courses(6), PegField.OUTSIDE);
        due.is("courses(5), no board", none.courses(5), PegField.STATE);
        due.is("wins(2), no board", none.wins(2), PegField.OUTSIDE);
        due.is("wins(1), no board", none.wins(1), PegField.STATE);
        due.is("mean, no board", none.mean(), PegField.STATE);
        due.is("add, no board", none.add(), PegField.STATE);
        due.is("that add does not count", none.count(10), 0);
    }

    private static void add() {
        due.is("add beside", Due.on("24;p...####").add(), 1);
        due.is("add, the least", Due.on("24;.p..####").add(), 0);
        due.is("add behind", Due.on("24;#p..####").add(), 2);
        due.is("add ahead", Due.on("24;...p####").add(), 2);
        due.is("add, none", Due.on("22;p...").add(), PegField.NONE);
        due.is("add, no empty hole", Due.on("22;pppp").add(), PegField.NONE);
        due.is("add, no hole there", Due.on("24;p#..####").add(), PegField.NONE);
        due.is("add so that none are left is not it", Due.on("24;f..#####").add(), PegField.NONE);
        due.is("add to a stone", Due.on("24;.s..####").add(), 2);
        due.is("add one that is plain", Due.on("33;x...#....").add(), PegField.NONE);
        due.is("add one that is jumped over aslant", Due.on("33;x........").add(), 4);
        due.is("add an eighth", Due.on("34;ppppppp.####").add(), PegField.NONE);
        PegField off = Due.on("24;fp.#####");
        off.jump(0, 2);
        due.is("add where none are", off.add(), 0);
        due.is("it counts", off.count(10), 1);
    }

    private static void addEver() {
        PegField x = Due.on("24;p...####");
        x.image();
        for (int done = 1; done <= 6; done++) {
            due.is("add " + done, x.add(), 1);
        }
        x.restore();
        due.is("it counts on, restored", x.count(10), 6);
        Due.type(x, "22;p...");
        x.board();
        due.is("it counts on, read", x.count(10), 6);
        for (int done = 7; done <= 12; done++) {
            due.is("add " + done, x.add(), PegField.NONE);
        }
        due.is("add 13", x.add(), PegField.STATE);
        due.is("adds", x.count(10), 12);
        Due.type(x, "24;p...####");
        x.board();
        due.is("add 13 on another board", x.add(), PegField.STATE);
    }
}
