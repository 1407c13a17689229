/** Promises 18 to 20: see, forget, runs. */
public final class SeenTest {
    private static final Due due = new Due();

    public static void main(String[] args) {
        see();
        seeRefused();
        forget();
        runs();
        runsDrawEachJump();
        runsRefused();
        due.end();
    }

    private static void see() {
        // By what is asked: the sorts that could, as bits.
        int[] could = {1 | 4 | 8 | 16, 2 | 16, 1 | 2 | 8 | 16, 1 | 2 | 4 | 16};
        for (int what = 0; what <= 3; what++) {
            PegField x = Due.on("22;ps..");
            due.is("see " + what, x.see(0, what, true), 1);
            due.is("sorts by " + what, x.peg(0, 3), could[what]);
            due.is("see not " + what, x.see(1, what, false), 2);
            due.is("sorts by not " + what, x.peg(1, 3), 31 - could[what]);
            due.is("its kind is not asked", x.peg(1, 0), 2);
        }
    }

    private static void seeRefused() {
        PegField x = Due.on("22;ps..");
        due.is("see(2)", x.see(2, 0, true), PegField.UNKNOWN);
        due.is("see(-1)", x.see(-1, 0, true), PegField.UNKNOWN);
        due.is("see(2, 4)", x.see(2, 4, true), PegField.UNKNOWN);
        due.is("see(0, 4)", x.see(0, 4, true), PegField.OUTSIDE);
        due.is("see(0, -1)", x.see(0, -1, true), PegField.OUTSIDE);
        due.is("nothing is seen", x.count(7), 0);
        for (int seen = 1; seen <= 6; seen++) {
            due.is("see " + seen, x.see(0, 0, true), seen);
        }
        due.is("see 7", x.see(0, 1, true), PegField.FULL);
        due.is("see 7, outside", x.see(0, 4, true), PegField.OUTSIDE);
        due.is("see 7, unknown", x.see(2, 0, true), PegField.UNKNOWN);
        due.is("sorts", x.peg(0, 3), 29);
        due.is("seen", x.count(7), 6);
        due.is("without a board", new PegField().see(0, 0, true), PegField.UNKNOWN);
    }

    private static void forget() {
        PegField x = Due.on("22;ps..");
        x.see(0, 0, false);
        x.see(1, 0, false);
        due.is("forget", x.forget(), 2);
        due.is("sorts", x.peg(0, 3), 31);
        due.is("seen", x.count(7), 0);
        due.is("forget again", x.forget(), 0);
        due.is("see again", x.see(1, 2, false), 1);
        due.is("sorts of it", x.peg(1, 3), 4);
        due.is("sorts of the other", x.peg(0, 3), 31);
    }

    private static void runs(String board, int times, int seed, int jumps, int alone, int seedThen) {
        PegField x = Due.on(board);
        String call = "runs(" + times + ", " + seed + ") on " + board;
        due.is(call + " jumps", x.runs(times, seed, 0), jumps);
        due.is(call + " alone", x.runs(times, seed, 1), alone);
        due.is(call + " seed", x.runs(times, seed, 2), seedThen);
    }

    private static void runs() {
        runs("22;p...", 1, 5, 0, 1, 5);
        runs("22;p...", 40, 0, 0, 40, 0);
        runs("22;pp..", 40, Integer.MAX_VALUE, 0, 0, Integer.MAX_VALUE);
        // From seed 0 comes 12345, of which 65536 goes 0 times: the first jump, by which none are left.
        runs("24;.fp.####", 1, 0, 1, 0, 12345);
        // From seed 3 comes 1163074432, of which 65536 goes 17747 times: the second, by which one is left.
        runs("24;.fp.####", 1, 3, 1, 1, 1163074432);
        runs("24;.pf.####", 1, 3, 1, 0, 1163074432);
        runs("23;pp.###", 1, 3, 1, 1, 1163074432);
        runs("33;....p...x", 1, 3, 1, 1, 1163074432);
    }

    private static void runsDrawEachJump() {
        // Each run has two jumps, and no choice: the seed goes on all the same.
        long seed = 77;
        for (int draws = 1; draws <= 80; draws++) {
            seed = (1103515245L * seed + 12345L) % (1L << 31);
            if (draws % 2 == 0) {
                runs("24;pp.p####", draws / 2, 77, draws, draws / 2, (int) seed);
            }
        }
    }

    private static void runsRefused() {
        PegField none = new PegField();
        PegField x = Due.on("22;p...");
        due.is("runs(0)", x.runs(0, 1, 0), PegField.OUTSIDE);
        due.is("runs(41)", x.runs(41, 1, 0), PegField.OUTSIDE);
        due.is("runs(-1)", x.runs(-1, 1, 0), PegField.OUTSIDE);
        due.is("runs(seed -1)", x.runs(1, -1, 0), PegField.OUTSIDE);
        due.is("runs(seed min)", x.runs(1, Integer.MIN_VALUE, 0), PegField.OUTSIDE);
        due.is("runs(what 3)", x.runs(1, 1, 3), PegField.OUTSIDE);
        due.is("runs(what -1)", x.runs(1, 1, -1), PegField.OUTSIDE);
        due.is("runs(41), no board", none.runs(41, 1, 0), PegField.OUTSIDE);
        due.is("runs, no board", none.runs(1, 1, 0), PegField.STATE);
    }
}
