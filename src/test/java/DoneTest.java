/** Promises 9 to 13: jump, put, plug, bore, be. */
public final class DoneTest {
    private static final Due due = new Due();

    public static void main(String[] args) {
        jump();
        jumpRefused();
        frailJumps();
        jumpFull();
        put();
        plugAndBore();
        be();
        due.end();
    }

    private static void jump() {
        PegField x = Due.on("24;pp.p####");
        due.is("jump", x.jump(0, 2), 2);
        due.is("it is there", x.place(2, 1), 0);
        due.is("it left", x.place(0, 1), PegField.NONE);
        due.is("the other is OFF", x.place(1, 1), PegField.NONE);
        due.is("jumps that were", x.count(6), 1);
        due.is("jump back over another", x.jump(2, 1), 1);
        due.is("jumps that were", x.count(6), 2);
        due.is("pegs", x.count(3), 3);
        PegField slant = Due.on("33;x...p....");
        due.is("a jump aslant", slant.jump(0, 8), 1);
        due.is("it is there", slant.peg(0, 1), 8);
        slant = Due.on("33;....p...x");
        due.is("a jump aslant, the other way", slant.jump(1, 0), 1);
        due.is("it is there", slant.peg(1, 1), 0);
    }

    private static void jumpRefused() {
        PegField x = Due.on("24;pp.p####");
        due.is("jump(-1, 0)", x.jump(-1, 0), PegField.UNKNOWN);
        due.is("jump(3, 2)", x.jump(3, 2), PegField.UNKNOWN);
        due.is("jump(0, 8)", x.jump(0, 8), PegField.UNKNOWN);
        due.is("jump(0, -1)", x.jump(0, -1), PegField.UNKNOWN);
        due.is("jump to where it is", x.jump(0, 0), PegField.STATE);
        due.is("jump beside", x.jump(0, 1), PegField.STATE);
        due.is("jump too far", x.jump(0, 3), PegField.STATE);
        due.is("jump to no hole", x.jump(0, 4), PegField.STATE);
        due.is("another cannot", x.jump(1, 2), PegField.STATE);
        due.is("nothing was done", x.count(6), 0);
        due.is("all are there", x.count(4), 3);
        x.jump(0, 2);
        due.is("one that is OFF", x.jump(1, 0), PegField.STATE);
        due.is("without a board", new PegField().jump(0, 0), PegField.UNKNOWN);
        due.is("over a stone", Due.on("23;ps.###").jump(0, 2), PegField.STATE);
    }

    private static void frailJumps() {
        PegField x = Due.on("23;fpp..p");
        due.is("it cannot", x.jump(0, 2), PegField.STATE);
        x = Due.on("23;fp...p");
        due.is("a frail one", x.jump(0, 2), 1);
        due.is("it is OFF", x.peg(0, 1), PegField.NONE);
        due.is("nobody is there", x.place(2, 1), PegField.NONE);
        due.is("nobody is where it was", x.place(0, 1), PegField.NONE);
        due.is("put where it was", x.put(0, 0), 2);
        due.is("it is there", x.peg(0, 1), 0);
        x = Due.on("23;fp.###");
        due.is("none are left", x.jump(0, 2), 0);
        due.is("a frail one that is jumped over", Due.on("23;pf.###").jump(0, 2), 1);
    }

    // The document's 512 calls end before 999 jumps; this looks at the guard all the same.
    private static void jumpFull() {
        PegField x = Due.on("23;pp.###");
        for (int jumps = 1; jumps <= 999; jumps++) {
            due.is("jump " + jumps, x.jump(0, x.peg(0, 1) == 0 ? 2 : 0), 1);
            x.put(1, 1);
        }
        due.is("it cannot", x.jump(0, 1), PegField.STATE);
        due.is("jump 1000", x.jump(0, 0), PegField.FULL);
        due.is("nothing was done", x.count(4), 2);
        due.is("jumps", x.count(6), 999);
    }

    private static void put() {
        PegField x = Due.on("24;ppx.#.s.");
        due.is("put one on the board", x.put(0, 3), PegField.STATE);
        due.is("jump", x.jump(1, 3), 3);
        due.is("put(-1)", x.put(-1, 0), PegField.UNKNOWN);
        due.is("put(4)", x.put(4, 0), PegField.UNKNOWN);
        due.is("put at -1", x.put(2, -1), PegField.UNKNOWN);
        due.is("put at 8", x.put(2, 8), PegField.UNKNOWN);
        due.is("put where there is no hole", x.put(2, 4), PegField.STATE);
        due.is("put where a peg is", x.put(2, 0), PegField.STATE);
        due.is("nothing was done", x.count(4), 3);
        due.is("put", x.put(2, 7), 4);
        due.is("it is there", x.peg(2, 1), 7);
        due.is("the place has it", x.place(7, 1), 2);
        due.is("its kind", x.peg(2, 0), 1);
        due.is("put again", x.put(2, 5), PegField.STATE);
        due.is("jumps", x.count(6), 1);
    }

    private static void plugAndBore() {
        PegField x = Due.on("23;pp.#..");
        due.is("holes", x.count(2), 5);
        due.is("plug where a peg is", x.plug(0), PegField.STATE);
        due.is("plug where there is none", x.plug(3), PegField.STATE);
        due.is("plug(-1)", x.plug(-1), PegField.UNKNOWN);
        due.is("plug(6)", x.plug(6), PegField.UNKNOWN);
        due.is("plug", x.plug(2), 4);
        due.is("no hole", x.place(2, 0), 0);
        due.is("plug again", x.plug(2), PegField.STATE);
        due.is("nobody jumps there", x.peg(0, 2), 0);
        due.is("bore where a hole is", x.bore(4), PegField.STATE);
        due.is("bore where a peg is", x.bore(1), PegField.STATE);
        due.is("bore(-1)", x.bore(-1), PegField.UNKNOWN);
        due.is("bore(6)", x.bore(6), PegField.UNKNOWN);
        due.is("bore", x.bore(2), 5);
        due.is("it is a hole", x.place(2, 0), 1);
        due.is("it is empty", x.place(2, 1), PegField.NONE);
        due.is("one jumps there", x.peg(0, 2), 4);
        due.is("bore another", x.bore(3), 6);
        due.is("one jump", x.count(5), 1);
        due.is("plug without a board", new PegField().plug(0), PegField.UNKNOWN);
        due.is("bore without a board", new PegField().bore(0), PegField.UNKNOWN);
    }

    private static void be() {
        PegField x = Due.on("23;pp.###");
        due.is("be(2, 0)", x.be(2, 0), PegField.UNKNOWN);
        due.is("be(-1, 0)", x.be(-1, 0), PegField.UNKNOWN);
        due.is("be(2, 5)", x.be(2, 5), PegField.UNKNOWN);
        due.is("be(0, 5)", x.be(0, 5), PegField.OUTSIDE);
        due.is("be(0, -1)", x.be(0, -1), PegField.OUTSIDE);
        due.is("be a stone", x.be(1, 2), 0);
        due.is("it is one", x.peg(1, 0), 2);
        due.is("it cannot be jumped over", x.peg(0, 2), 0);
        due.is("be a slant", x.be(1, 1), 2);
        due.is("it can be", x.peg(0, 2), 4);
        due.is("be a slant", x.be(0, 1), 0);
        due.is("it goes aslant alone", x.peg(0, 2), 0);
        due.is("be plain", x.be(0, 0), 1);
        due.is("it goes straight", x.peg(0, 2), 4);
        due.is("be frail", x.be(0, 3), 0);
        due.is("be frail again", x.be(0, 3), 3);
        due.is("it goes off", x.jump(0, 2), 0);
        due.is("be both, while OFF", x.be(0, 4), 3);
        due.is("it is one", x.peg(0, 0), 4);
        due.is("it is still OFF", x.peg(0, 1), PegField.NONE);
    }
}
