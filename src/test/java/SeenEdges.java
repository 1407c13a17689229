import java.math.BigInteger;

/** The edges of what is seen and told, and of promises 18 to 24, sentence by sentence. */
final class SeenEdges {
    private static final int[] FAR = {Integer.MIN_VALUE, -101, -1, 100, Integer.MAX_VALUE};
    // By what is asked: which of the kinds p, x, s, f, b could.
    private static final String[] WHO = {"psfb", "xb", "pxfb", "pxsb"};
    private static final String KINDS = "pxsfb";
    // Peg 0 to 2 and then 6, peg 0 to 8, peg 1 to 7: three choices, then one or none.
    private static final String CORNER = "33;bp..p....";

    private final Sentences s;

    SeenEdges(Sentences itsSentences) {
        s = itsSentences;
    }

    void all() {
        termsOfWhatIsSeen();
        termsOfRuns();
        termsImageKeeps();
        termsRefusals();
        see();
        forget();
        runs();
        image();
        restore();
        count();
        digest();
    }

    private void termsOfWhatIsSeen() {
        termsSixAtMost();
        termsNotKnown();
        termsCould();
        termsSorts();
        termsAsk();
    }

    private void termsOfRuns() {
        termsRunsFromNow();
        termsRunsDraw();
        termsRunsTill();
        termsDraws();
    }

    // ---- what is seen

    private void termsSixAtMost() {
        s.of(0, "SEEN (6 at most)");
        PegField x = Due.on("22;pxs.");
        for (int seen = 1; seen <= 6; seen++) {
            s.is("see " + seen, x.see(seen % 3, 0, true), seen);
        }
        for (int peg = 0; peg < 3; peg++) {
            int of = peg;
            s.refuses(x, "see 7, of " + peg, PegField.FULL, () -> x.see(of, 1, false));
        }
        PegField y = Due.on("22;pxs.");
        for (int seen = 1; seen <= 6; seen++) {
            s.is("see the same again " + seen, y.see(0, 0, true), seen);
        }
        s.refuses(y, "see the same once more", PegField.FULL, () -> y.see(0, 0, true));
    }

    private void termsNotKnown() {
        s.of(0, "of a PEG, of which it is not known of which KIND it is, whether it could do something");
        for (int peg = 0; peg < 5; peg++) {
            PegField x = Due.on("32;pxsfb.");
            s.is("nothing is seen of " + peg, x.peg(peg, 3), 31);
            x.see(peg, 2, false);
            s.is("it is seen as a stone: " + peg, x.peg(peg, 3), 1 << 2);
            s.is("its kind stays: " + peg, x.peg(peg, 0), peg);
            x.be(peg, 0);
            s.is("it stays seen: " + peg, x.peg(peg, 3), 1 << 2);
        }
    }

    private static int bitsOf(int what, boolean could) {
        int bits = 0;
        for (int kind = 0; kind < 5; kind++) {
            if (WHO[what].indexOf(KINDS.charAt(kind)) >= 0 == could) {
                bits |= 1 << kind;
            }
        }
        return bits;
    }

    private void termsCould() {
        s.of(0, "0 go along a row or a column, 1 aslant, 2 be jumped over, 3 stay on the board when it has JUMPED.");
        for (int what = 0; what <= 3; what++) {
            PegField x = Due.on("22;pp..");
            x.see(0, what, true);
            s.is("could " + what, x.peg(0, 3), bitsOf(what, true));
            x.see(1, what, false);
            s.is("could not " + what, x.peg(1, 3), bitsOf(what, false));
        }
        s.is("could go straight", bitsOf(0, true), 1 | 4 | 8 | 16);
        s.is("could not stay", bitsOf(3, false), 8);
    }

    /** All that can be seen of a peg: each of four things not at all, so, or not so. */
    private void termsSorts() {
        s.of(0, "SORTS (KINDS 0 to 4) it can be of, so that all that is SEEN of it is so: as bits.");
        for (int seen = 0; seen < 81; seen++) {
            PegField x = Due.on("22;p..s");
            see(x, seen);
            s.is("sorts of what was seen " + seen, x.peg(0, 3), sortsOf(seen));
            s.is("sorts of another", x.peg(1, 3), 31);
        }
        PegField x = Due.on("22;p..s");
        x.see(0, 3, true);
        x.see(0, 3, false);
        s.is("what cannot both be", x.peg(0, 3), 0);
    }

    private static void see(PegField x, int seen) {
        for (int what = 0, left = seen; what <= 3; what++, left /= 3) {
            if (left % 3 > 0) {
                x.see(0, what, left % 3 == 1);
            }
        }
    }

    private static int sortsOf(int seen) {
        int sorts = 31;
        for (int what = 0, left = seen; what <= 3; what++, left /= 3) {
            if (left % 3 > 0) {
                sorts &= bitsOf(what, left % 3 == 1);
            }
        }
        return sorts;
    }

    private static int askOf(int sorts) {
        int ask = PegField.NONE;
        int fewest = 6;
        for (int what = 0; what <= 3 && sorts != 0; what++) {
            int yes = Integer.bitCount(sorts & bitsOf(what, true));
            int no = Integer.bitCount(sorts & bitsOf(what, false));
            if (Math.max(yes, no) < fewest) {
                fewest = Math.max(yes, no);
                ask = what;
            }
        }
        return ask;
    }

    private void termsAsk() {
        s.of(0, "ASK for a PEG: which of these (0 to 3) to ask next, so that fewest of these are left at worst: of like ones the least; none, if there are none.");
        for (int seen = 0; seen < 81; seen++) {
            PegField x = Due.on("22;p..s");
            see(x, seen);
            s.is("ask, when seen " + seen, x.peg(0, 4), askOf(sortsOf(seen)));
        }
        PegField x = Due.on("22;p..s");
        s.is("of five, three at worst", x.peg(0, 4), 1);
        x.see(0, 1, true);
        s.is("of x and b, one", x.peg(0, 4), 0);
        x.see(0, 0, true);
        s.is("of b alone: all are like", x.peg(0, 4), 0);
        x.see(0, 2, false);
        s.is("none are left", x.peg(0, 4), PegField.NONE);
        PegField y = Due.on("22;p..s");
        y.see(0, 1, false);
        s.is("of p, s, f: s or f, the least", y.peg(0, 4), 2);
        y.see(0, 2, true);
        s.is("of p and f", y.peg(0, 4), 3);
    }

    // ---- runs

    private static long next(long seed) {
        return BigInteger.valueOf(seed).multiply(BigInteger.valueOf(1103515245L)).add(BigInteger.valueOf(12345L))
            .mod(BigInteger.TWO.pow(31)).longValue();
    }

    private void runs(String board, int times, int seed, long jumps, long alone, long seedThen) {
        PegField x = Due.on(board);
        String call = "runs(" + times + ", " + seed + ") on " + board;
        s.is(call + ": jumps", x.runs(times, seed, 0), jumps);
        s.is(call + ": alone", x.runs(times, seed, 1), alone);
        s.is(call + ": seed", x.runs(times, seed, 2), seedThen);
    }

    private void termsRunsFromNow() {
        s.of(0, "RUNS by a SEED, as they would be: so many, each from how all is now");
        PegField x = Due.on("24;pp.p####");
        long before = x.digest();
        s.is("two jumps in each of 40", x.runs(40, 1, 0), 80);
        s.is("nothing is done", x.digest(), before);
        x.jump(0, 2);
        s.is("one jump in each of 40, from now", x.runs(40, 1, 0), 40);
        x.jump(2, 1);
        s.is("none from now", x.runs(40, 1, 0), 0);
        s.is("one alone is left at once", x.runs(40, 1, 1), 40);
    }

    private void termsRunsDraw() {
        s.of(0, "each JUMP is one by a DRAW of how many there are (by the PEG, then by the PLACE to which it goes)");
        for (int seed : new int[] {0, 1, 2, 3, 12345, Integer.MAX_VALUE - 1, Integer.MAX_VALUE}) {
            for (int times : new int[] {1, 2, 3, 39, 40}) {
                cornerByHand(times, seed);
            }
        }
    }

    private void cornerByHand(int times, int seed) {
        long drawn = seed;
        int jumps = 0;
        int alone = 0;
        for (int run = 0; run < times; run++) {
            drawn = next(drawn);
            jumps++;
            if (drawn / 65536 % 3 == 0) {
                drawn = next(drawn);
                jumps++;
                alone++;
            }
        }
        runs(CORNER, times, seed, jumps, alone, drawn);
    }

    private void termsRunsTill() {
        s.of(0, "till there is none: how many JUMPS there are, in all; in how many of them one PEG alone is left.");
        runs("22;p...", 40, 9, 0, 40, 9);
        runs("22;pp..", 40, 9, 0, 0, 9);
        runs("34;sssssss.....", 40, 9, 0, 0, 9);
        runs("23;pp.###", 1, 0, 1, 1, 12345);
        runs("23;fp.###", 1, 0, 1, 0, 12345);
        runs("43;pp.###pp.###", 1, 0, 2, 0, next(12345));
        // Aslant, to the first place and to the last.
        runs("33;....p...x", 1, 0, 1, 1, 12345);
        runs("33;x...p....", 1, 0, 1, 1, 12345);
        PegField x = Due.on("23;fp.###");
        x.jump(0, 2);
        s.is("nobody is not one alone", x.runs(40, 9, 1), 0);
        s.is("nobody jumps", x.runs(40, 9, 0), 0);
    }

    private void termsDraws() {
        s.of(0, "DRAWS: the next SEED each time: 1103515245 times it and 12345, its rest by 2 to the 31; then that by 65536 (rounded down), its rest.");
        // f0 over p1 to 3, and none are left; or p1 over f0 to 0, and one is.
        for (int seed : new int[] {0, 1, 3, 65535, 65536, 1 << 30, Integer.MAX_VALUE - 1, Integer.MAX_VALUE}) {
            long drawn = next(seed);
            runs("24;.fp.####", 1, seed, 1, drawn / 65536 % 2, drawn);
        }
        s.is("behind the greatest seed", next(Integer.MAX_VALUE), (2147483648L + 12345L - 1103515245L) % 2147483648L);
        runs("24;.fp.####", 1, 3, 1, 1, 1163074432L);
        long drawn = 5;
        for (int draws = 0; draws < 40; draws++) {
            drawn = next(drawn);
        }
        s.is("a draw for a single jump, too", Due.on("23;pp.###").runs(40, 5, 2), drawn);
    }

    // ---- images, refusals

    private void termsImageKeeps() {
        s.of(0, "An IMAGE keeps HOLES, KINDS, where all PEGS are, JUMPS, SEEN.");
        PegField x = Due.on("24;fppp..#.");
        x.see(3, 2, true);
        x.image();
        long then = x.digest();
        x.plug(4);
        x.bore(6);
        s.is("holes", x.restore() + 10 * x.place(4, 0) + 100 * x.place(6, 0), 10);
        x.be(1, 4);
        s.is("kinds", x.restore() + 10 * x.peg(1, 0), 0);
        s.is("as it was", x.digest(), then);
        x.be(3, 4);
        x.plug(5);
        x.be(2, 0);
        x.restore();
        x.forget();
        s.is("seen", x.restore() + x.peg(3, 3), bitsOf(2, true));
        x.see(0, 0, true);
        x.restore();
        s.is("how much is seen", x.count(7), 1);
        s.is("as it was, again", x.digest(), then);
        // As much is seen again, of others and otherwise: what was kept is not overwritten by it.
        x.forget();
        x.see(0, 1, true);
        x.see(1, 1, true);
        x.restore();
        s.is("what is seen of peg 3", x.peg(3, 3), bitsOf(2, true));
        s.is("nothing is seen of peg 0", x.peg(0, 3), 31);
        s.is("as it was, once more", x.digest(), then);
        PegField y = Due.on("23;fp.###");
        y.jump(0, 2);
        y.put(1, 1);
        y.image();
        y.put(0, 0);
        y.jump(0, 2);
        y.put(0, 2);
        s.is("jumps", y.restore(), 1);
        s.is("where peg 0 is", y.peg(0, 1), PegField.NONE);
        s.is("where peg 1 is", y.peg(1, 1), 1);
        s.is("who is in 2", y.place(2, 1), PegField.NONE);
        s.is("on the board", y.count(4), 1);
    }

    private void termsRefusals() {
        s.of(0, "Refusals, of several the first as told by each call");
        PegField x = Due.on("23;pp.###");
        PegField none = new PegField();
        s.refuses(x, "peg: UNKNOWN, OUTSIDE", PegField.UNKNOWN, () -> x.peg(2, 5));
        s.refuses(x, "as: UNKNOWN, OUTSIDE", PegField.UNKNOWN, () -> x.as(-1, -1));
        s.refuses(x, "place: UNKNOWN, OUTSIDE", PegField.UNKNOWN, () -> x.place(6, 2));
        s.refuses(x, "jump: UNKNOWN, STATE", PegField.UNKNOWN, () -> x.jump(1, 6));
        s.refuses(x, "put: UNKNOWN, STATE", PegField.UNKNOWN, () -> x.put(0, 6));
        s.refuses(x, "put: UNKNOWN, STATE, of no peg", PegField.UNKNOWN, () -> x.put(2, 0));
        s.refuses(x, "be: UNKNOWN, OUTSIDE", PegField.UNKNOWN, () -> x.be(2, 5));
        s.refuses(x, "see: UNKNOWN, OUTSIDE", PegField.UNKNOWN, () -> x.see(2, 4, true));
        s.refuses(none, "courses: OUTSIDE, STATE", PegField.OUTSIDE, () -> none.courses(6));
        s.refuses(none, "wins: OUTSIDE, STATE", PegField.OUTSIDE, () -> none.wins(2));
        s.refuses(none, "runs: OUTSIDE, STATE", PegField.OUTSIDE, () -> none.runs(0, 1, 0));
        for (int seen = 1; seen <= 6; seen++) {
            x.see(0, 0, true);
        }
        s.refuses(x, "see: UNKNOWN, FULL", PegField.UNKNOWN, () -> x.see(2, 0, true));
        s.refuses(x, "see: OUTSIDE, FULL", PegField.OUTSIDE, () -> x.see(0, 4, true));
        Due.type(x, "22;p....".repeat(2) + "22");
        s.refuses(x, "letter: OUTSIDE, FULL", PegField.OUTSIDE, () -> x.letter(127));
        s.of(0, "they change nothing.");
        refusalsLeaveTheImage();
    }

    private void refusalsLeaveTheImage() {
        PegField x = Due.on("24;pp.p##..");
        x.see(0, 1, false);
        x.image();
        long then = x.digest();
        x.jump(0, 2);
        for (int seen = 2; seen <= 6; seen++) {
            x.see(1, 0, true);
        }
        s.refuses(x, "jump", PegField.STATE, () -> x.jump(1, 3));
        s.refuses(x, "put", PegField.STATE, () -> x.put(1, 4));
        s.refuses(x, "plug", PegField.STATE, () -> x.plug(2));
        s.refuses(x, "bore", PegField.STATE, () -> x.bore(1));
        s.refuses(x, "be", PegField.OUTSIDE, () -> x.be(1, 5));
        s.refuses(x, "see", PegField.FULL, () -> x.see(1, 0, false));
        s.refuses(x, "board", PegField.STATE, x::board);
        s.refuses(x, "runs", PegField.OUTSIDE, () -> x.runs(41, 1, 0));
        s.is("restore", x.restore(), 0);
        s.is("the image is as it was", x.digest(), then);
    }

    // ---- promises 18 to 20

    private void see() {
        s.of(18, "It is SEEN: how much is.");
        PegField x = Due.on("23;pp.###");
        s.is("of one", x.see(0, 0, true), 1);
        s.is("of another", x.see(1, 3, false), 2);
        x.jump(0, 2);
        s.is("of one that is OFF", x.see(1, 2, true), 3);
        s.is("its sorts", x.peg(1, 3), 1 << 3);
        s.of(18, "UNKNOWN: peg");
        for (int far : FAR) {
            s.refuses(x, "see(" + far + ", 0)", PegField.UNKNOWN, () -> x.see(far, 0, true));
            s.refuses(x, "see(" + far + ", 4)", PegField.UNKNOWN, () -> x.see(far, 4, false));
        }
        s.refuses(x, "see(2, 0)", PegField.UNKNOWN, () -> x.see(2, 0, true));
        s.of(18, "OUTSIDE: what (0 to 3)");
        for (int far : FAR) {
            s.refuses(x, "see(0, " + far + ")", PegField.OUTSIDE, () -> x.see(0, far, true));
        }
        s.refuses(x, "see(0, 4)", PegField.OUTSIDE, () -> x.see(0, 4, false));
        s.of(18, "FULL.");
        for (int seen = 4; seen <= 6; seen++) {
            s.is("see " + seen, x.see(0, seen - 3, true), seen);
        }
        s.refuses(x, "see 7", PegField.FULL, () -> x.see(0, 0, true));
        x.forget();
        s.is("see 1", x.see(0, 0, true), 1);
    }

    private void forget() {
        s.of(19, "Nothing is SEEN any more: how much was.");
        PegField x = Due.on("22;px..");
        s.is("nothing was", x.forget(), 0);
        for (int much = 1; much <= 6; much++) {
            for (int seen = 0; seen < much; seen++) {
                x.see(seen % 2, 2, false);
            }
            s.is("so much was", x.forget(), much);
            s.is("nothing is", x.count(7), 0);
            s.is("sorts of 0", x.peg(0, 3), 31);
            s.is("sorts of 1", x.peg(1, 3), 31);
        }
        x.see(1, 1, true);
        s.is("what was is not seen again", x.peg(0, 3), 31);
        s.is("what is, is", x.peg(1, 3), bitsOf(1, true));
    }

    private void runs() {
        s.of(20, "RUNS: what = 0 how many JUMPS, 1 in how many, 2 the SEED then.");
        runs("23;pp.###", 1, Integer.MAX_VALUE, 1, 1, next(Integer.MAX_VALUE));
        runs("24;pp.p####", 2, 0, 4, 2, next(next(next(next(0)))));
        s.of(20, "OUTSIDE: times (1 to 40)");
        PegField x = Due.on("23;pp.###");
        PegField none = new PegField();
        for (int times : new int[] {Integer.MIN_VALUE, -1, 0, 41, 42, Integer.MAX_VALUE}) {
            s.refuses(x, "runs(" + times + ", 0, 0)", PegField.OUTSIDE, () -> x.runs(times, 0, 0));
            s.refuses(none, "runs without a board", PegField.OUTSIDE, () -> none.runs(times, 0, 0));
        }
        s.is("runs(1, 0, 0)", x.runs(1, 0, 0), 1);
        s.is("runs(40, 0, 0)", x.runs(40, 0, 0), 40);
        s.of(20, "seed (0 at least), what");
        for (int seed : new int[] {Integer.MIN_VALUE, -1103515245, -2, -1}) {
            s.refuses(x, "runs(1, " + seed + ", 0)", PegField.OUTSIDE, () -> x.runs(1, seed, 0));
            s.refuses(none, "runs without a board", PegField.OUTSIDE, () -> none.runs(1, seed, 0));
        }
        for (int what : new int[] {Integer.MIN_VALUE, -1, 3, Integer.MAX_VALUE}) {
            s.refuses(x, "runs(1, 0, " + what + ")", PegField.OUTSIDE, () -> x.runs(1, 0, what));
            s.refuses(none, "runs without a board", PegField.OUTSIDE, () -> none.runs(1, 0, what));
        }
        s.is("runs(1, 0, 2)", x.runs(1, 0, 2), 12345);
        s.is("runs(1, greatest, 0)", x.runs(1, Integer.MAX_VALUE, 0), 1);
        s.of(20, "STATE: no BOARD.");
        for (int what = 0; what <= 2; what++) {
            int asked = what;
            s.refuses(none, "runs(1, 0, " + what + ")", PegField.STATE, () -> none.runs(1, 0, asked));
        }
    }

    // ---- promises 21 to 24

    private void image() {
        s.of(21, "An IMAGE is kept (one; the latest): how many JUMPS there were.");
        PegField x = Due.on("24;pp.p####");
        s.is("none were", x.image(), 0);
        x.jump(0, 2);
        s.is("one was", x.image(), 1);
        x.jump(2, 1);
        s.is("two were", x.image(), 2);
        x.put(0, 0);
        s.is("the latest", x.restore(), 2);
        s.is("its pegs", x.count(4), 1);
        s.is("the latest, once more", x.restore(), 2);
        s.of(21, "STATE: no BOARD.");
        PegField none = new PegField();
        s.refuses(none, "image", PegField.STATE, none::image);
        Due.type(none, "22;p...");
        s.refuses(none, "image, not read yet", PegField.STATE, none::image);
        s.refuses(none, "none was kept", PegField.STATE, none::restore);
        none.board();
        s.is("image", none.image(), 0);
    }

    private void restore() {
        s.of(22, "It goes on from the IMAGE: how many JUMPS there were.");
        PegField x = Due.on("24;pp.p####");
        x.image();
        x.jump(0, 2);
        s.is("back to none", x.restore(), 0);
        s.is("jump again", x.jump(0, 2), 2);
        s.is("jumps that were", x.count(6), 1);
        x.image();
        x.jump(2, 1);
        s.is("back to one", x.restore(), 1);
        Due.type(x, "22;");
        s.is("the page is no part of it", x.restore() + 10 * x.count(8), 31);
        s.of(22, "STATE: none was kept");
        PegField none = new PegField();
        s.refuses(none, "restore without a board", PegField.STATE, none::restore);
        Due.type(none, "22;p...");
        none.board();
        s.refuses(none, "restore", PegField.STATE, none::restore);
        s.of(22, "or a BOARD was read since (of the same text, too).");
        Due.type(x, "p...");
        s.is("another board", x.board(), 1);
        s.refuses(x, "restore", PegField.STATE, x::restore);
        x.image();
        Due.type(x, "22;p...");
        x.board();
        s.refuses(x, "restore, the same text", PegField.STATE, x::restore);
        x.image();
        Due.type(x, "22;....");
        x.board();
        s.is("restore, none was read since", x.restore(), 0);
    }

    private void counts(PegField x, String when, int... want) {
        for (int what = 0; what <= 10; what++) {
            s.is(when + ": count(" + what + ")", x.count(what), want[what]);
        }
    }

    private void count() {
        s.of(23, "How many: 0 ROWS, 1 COLUMNS of the BOARD, 2 HOLES, 3 PEGS, 4 PEGS that are on the board, 5 JUMPS that there are now");
        PegField x = new PegField();
        counts(x, "new", 0, 0, 0, 0, 0, 0, 0, 0, 0, 0, 0);
        Due.type(x, "43;pp.###pp.##s");
        x.board();
        counts(x, "board", 4, 3, 7, 5, 5, 2, 0, 0, 0, 1, 0);
        x.jump(0, 2);
        counts(x, "jump", 4, 3, 7, 5, 4, 1, 1, 0, 0, 1, 0);
        x.plug(0);
        counts(x, "plug", 4, 3, 6, 5, 4, 1, 1, 0, 0, 1, 0);
        PegField corner = Due.on(CORNER);
        s.is("two ways of one and one of another", corner.count(5), 3);
        s.is("seven pegs", Due.on("34;.bb.bbb..bb.").count(3), 7);
        s.of(23, "6 JUMPS that were, 7 what is SEEN, 8 letters of THE PAGE, 9 how often a BOARD was read, 10 how often add() was done.");
        x.see(0, 0, true);
        x.add();
        Due.type(x, "22;p....".repeat(2) + "222");
        counts(x, "a full page", 4, 3, 6, 5, 4, 1, 1, 1, 18, 1, 1);
        x.board();
        x.blank();
        Due.type(x, "22;p...");
        x.board();
        counts(x, "another board", 2, 2, 4, 1, 1, 0, 0, 0, 0, 2, 1);
        x.put(0, 1);
        x.jump(0, 1);
        counts(x, "refused", 2, 2, 4, 1, 1, 0, 0, 0, 0, 2, 1);
        s.of(23, "OUTSIDE.");
        PegField none = new PegField();
        for (int what : new int[] {Integer.MIN_VALUE, -2, -1, 11, 12, 100, Integer.MAX_VALUE}) {
            s.refuses(x, "count(" + what + ")", PegField.OUTSIDE, () -> x.count(what));
            s.refuses(none, "count(" + what + "), new", PegField.OUTSIDE, () -> none.count(what));
        }
    }

    private void digest() {
        s.of(24, "h is 1307, then for each of these numbers, in order, 31 times h, and it (as longs, wrapping)");
        s.is("nothing but counts", new PegField().digest(), new BigInteger("1307").multiply(BigInteger.valueOf(31).pow(11)).longValue());
        s.of(24, "of each PEG what peg() tells for 0 to 4; of each PLACE what place() tells for 0 and 1");
        isFolded(Due.on("22;s..."), "");
        isFolded(Due.on("34;.bb.bbb..bb."), "");
        isFolded(Due.on("43;pxsfb#......"), "");
        s.of(24, "with a BOARD (all up to the next semicolon) what courses() tells for 0 to 5, wins() for 0 and 1, mean()");
        isFolded(new PegField(), "");
        isFolded(Due.on(CORNER), "");
        PegField x = Due.on("24;fp.p####");
        x.jump(0, 2);
        isFolded(x, "");
        s.of(24, "letters of THE PAGE; what count() tells for 0 to 10.");
        for (String page : new String[] {"2", "22;p...", " ~", "22;p....".repeat(2) + "22"}) {
            PegField typed = new PegField();
            Due.type(typed, page);
            isFolded(typed, page);
            typed = Due.on(CORNER);
            typed.add();
            typed.see(2, 3, false);
            Due.type(typed, page);
            isFolded(typed, page);
            typed.blank();
            isFolded(typed, "");
        }
    }

    /** What digest() should be, reckoned without an end to the numbers, and cut to a long at last. */
    private void isFolded(PegField x, String page) {
        StringBuilder numbers = new StringBuilder();
        for (int peg = 0; peg < x.count(3); peg++) {
            for (int what = 0; what <= 4; what++) {
                numbers.append(x.peg(peg, what)).append(' ');
            }
        }
        for (int place = 0; place < x.count(0) * x.count(1); place++) {
            numbers.append(x.place(place, 0)).append(' ').append(x.place(place, 1)).append(' ');
        }
        for (int what = 0; what <= 5 && x.count(9) > 0; what++) {
            numbers.append(x.courses(what)).append(' ');
        }
        if (x.count(9) > 0) {
            numbers.append(x.wins(0)).append(' ').append(x.wins(1)).append(' ').append(x.mean()).append(' ');
        }
        for (char sign : page.toCharArray()) {
            numbers.append((int) sign).append(' ');
        }
        for (int what = 0; what <= 10; what++) {
            numbers.append(x.count(what)).append(' ');
        }
        BigInteger hash = BigInteger.valueOf(1307);
        for (String number : numbers.toString().trim().split(" ")) {
            hash = hash.multiply(BigInteger.valueOf(31)).add(new BigInteger(number));
        }
        s.is("digest of " + numbers, x.digest(), hash.longValue());
        s.is("digest, once more", x.digest(), hash.longValue());
    }
}
