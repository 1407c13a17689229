/** Promises 21 to 24: image, restore, count, digest. */
public final class ToldTest {
    private static final Due due = new Due();

    public static void main(String[] args) {
        image();
        imageKeepsWhatIsSeen();
        restoreRefused();
        count();
        digestOfNoBoard();
        digestOfABoard();
        due.end();
    }

    private static void image() {
        PegField x = Due.on("24;pp.p.#..");
        due.is("jump", x.jump(0, 2), 2);
        x.see(1, 0, true);
        x.be(1, 3);
        due.is("image", x.image(), 1);
        long then = x.digest();
        x.jump(2, 1);
        x.put(1, 7);
        x.put(0, 3);
        x.plug(6);
        x.bore(5);
        x.be(1, 1);
        x.be(2, 4);
        x.see(2, 1, true);
        x.forget();
        due.is("jumps", x.count(6), 2);
        due.is("restore", x.restore(), 1);
        due.is("all is as it was", x.digest(), then);
        due.is("kind", x.peg(1, 0), 3);
        due.is("OFF", x.peg(1, 1), PegField.NONE);
        due.is("peg 2", x.place(3, 1), 2);
        due.is("hole 5", x.place(5, 0), 0);
        due.is("hole 6", x.place(6, 0), 1);
        due.is("sorts", x.peg(1, 3), 29);
        due.is("seen", x.count(7), 1);
        x.be(0, 2);
        x.see(0, 0, false);
        due.is("restore again", x.restore(), 1);
        due.is("all is as it was, again", x.digest(), then);
        x.jump(2, 1);
        due.is("another image", x.image(), 2);
        x.plug(0);
        due.is("the latest", x.restore(), 2);
        due.is("its pegs", x.count(4), 1);
        due.is("its sorts", x.peg(1, 3), 29);
        Due.type(x, "2");
        due.is("restore leaves the page", x.restore() + 10 * x.count(8), 12);
    }

    private static void imageKeepsWhatIsSeen() {
        PegField x = Due.on("22;pp..");
        for (int what = 0; what <= 3; what++) {
            x.see(0, what, true);
        }
        x.see(1, 0, false);
        x.see(1, 2, true);
        x.image();
        x.forget();
        for (int seen = 1; seen <= 6; seen++) {
            x.see(1, 2, false);
        }
        x.restore();
        due.is("sorts of 0", x.peg(0, 3), 16);
        due.is("sorts of 1", x.peg(1, 3), 2);
        due.is("seen", x.count(7), 6);
        due.is("see", x.see(0, 0, true), PegField.FULL);
    }

    private static void restoreRefused() {
        PegField x = new PegField();
        due.is("image, no board", x.image(), PegField.STATE);
        due.is("restore, no board", x.restore(), PegField.STATE);
        Due.type(x, "22;p...");
        x.board();
        due.is("restore, no image", x.restore(), PegField.STATE);
        due.is("image", x.image(), 0);
        due.is("restore", x.restore(), 0);
        Due.type(x, "22;p...");
        due.is("restore, page full", x.restore(), 0);
        due.is("the same board", x.board(), 1);
        due.is("restore, board read since", x.restore(), PegField.STATE);
        due.is("image of it", x.image(), 0);
        due.is("restore it", x.restore(), 0);
    }

    private static void counts(String when, PegField x, int... want) {
        for (int what = 0; what <= 10; what++) {
            due.is(when + " count(" + what + ")", x.count(what), want[what]);
        }
        due.is("count(11)", x.count(11), PegField.OUTSIDE);
        due.is("count(-1)", x.count(-1), PegField.OUTSIDE);
    }

    private static void count() {
        PegField x = new PegField();
        counts("new", x, 0, 0, 0, 0, 0, 0, 0, 0, 0, 0, 0);
        Due.type(x, "24;.pp#s..f");
        counts("page", x, 0, 0, 0, 0, 0, 0, 0, 0, 11, 0, 0);
        x.board();
        counts("board", x, 2, 4, 7, 4, 4, 1, 0, 0, 0, 1, 0);
        x.bore(3);
        counts("bored", x, 2, 4, 8, 4, 4, 2, 0, 0, 0, 1, 0);
        x.jump(1, 0);
        counts("jumped", x, 2, 4, 8, 4, 3, 0, 1, 0, 0, 1, 0);
        x.see(0, 0, true);
        x.see(0, 1, true);
        x.add();
        x.letter('4');
        counts("seen", x, 2, 4, 8, 4, 3, 0, 1, 2, 1, 1, 1);
        x.blank();
        Due.type(x, "43;bpb.........");
        x.board();
        counts("another", x, 4, 3, 12, 3, 3, 0, 0, 0, 0, 2, 1);
        x = Due.on("33;b...p.b.p");
        counts("two of one, two of another", x, 3, 3, 9, 4, 4, 1, 0, 0, 0, 1, 0);
        x = Due.on("33;bp.pp....");
        counts("three of one", x, 3, 3, 9, 4, 4, 5, 0, 0, 0, 1, 0);
    }

    private static long fold(long... numbers) {
        long hash = 1307L;
        for (long number : numbers) {
            hash = 31L * hash + number;
        }
        return hash;
    }

    private static void digestOfNoBoard() {
        PegField x = new PegField();
        due.is("digest, new", x.digest(), fold(0, 0, 0, 0, 0, 0, 0, 0, 0, 0, 0));
        Due.type(x, "2~ ");
        due.is("digest, letters", x.digest(), fold('2', '~', ' ', 0, 0, 0, 0, 0, 0, 0, 0, 3, 0, 0));
    }

    private static void digestOfABoard() {
        PegField x = Due.on("23;fp.#.s");
        x.see(1, 0, false);
        Due.type(x, "43");
        due.is("digest, board", x.digest(), fold(
            3, 0, 4, 31, 1,
            0, 1, 0, 2, 0,
            2, 5, 0, 31, 1,
            1, 0, 1, 1, 1, -1, 0, -1, 1, -1, 1, 2,
            1, 2, 1, 1, 1, 32, 1, 2, 1000,
            '4', '3',
            2, 3, 5, 3, 3, 1, 0, 1, 2, 1, 0));
        x.jump(0, 2);
        x.add();
        x.blank();
        due.is("digest, jumped", x.digest(), fold(
            3, -1, 0, 31, 1,
            0, -1, 0, 2, 0,
            2, 5, 0, 31, 1,
            1, -1, 1, -1, 1, -1, 0, -1, 1, -1, 1, 2,
            1, -1, 1, 0, 0, 32, 0, -1, 1000,
            2, 3, 5, 3, 1, 0, 1, 1, 0, 1, 1));
    }
}
