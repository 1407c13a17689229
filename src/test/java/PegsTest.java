/** Promises 6 to 8: peg, as, place. */
public final class PegsTest {
    private static final Due due = new Due();

    public static void main(String[] args) {
        whereAndOfWhichKind();
        targetsOfPlainPegs();
        targetsOfSlantsAndBoths();
        targetsAtTheEdges();
        sortsAndAsk();
        takenAs();
        places();
        due.end();
    }

    private static void whereAndOfWhichKind() {
        PegField x = Due.on("24;.pp.####");
        due.is("peg(-1)", x.peg(-1, 0), PegField.UNKNOWN);
        due.is("peg(2)", x.peg(2, 0), PegField.UNKNOWN);
        due.is("peg(max)", x.peg(Integer.MAX_VALUE, 0), PegField.UNKNOWN);
        due.is("peg(min)", x.peg(Integer.MIN_VALUE, 0), PegField.UNKNOWN);
        due.is("peg(2, 5)", x.peg(2, 5), PegField.UNKNOWN);
        due.is("peg(0, 5)", x.peg(0, 5), PegField.OUTSIDE);
        due.is("peg(0, -1)", x.peg(0, -1), PegField.OUTSIDE);
        x.jump(0, 3);
        due.is("place of the one that jumped", x.peg(0, 1), 3);
        due.is("place of the one that is OFF", x.peg(1, 1), PegField.NONE);
        due.is("kind of the one that is OFF", x.peg(1, 0), 0);
        due.is("targets of the one that is OFF", x.peg(1, 2), 0);
        due.is("sorts of the one that is OFF", x.peg(1, 3), 31);
    }

    private static void targets(String board, int peg, int want) {
        due.is("targets of " + peg + " on " + board, Due.on(board).peg(peg, 2), want);
    }

    private static void targetsOfPlainPegs() {
        targets("23;pp.###", 0, 1 << 2);
        targets("23;.pp###", 1, 1 << 0);
        targets("32;p#p#.#", 0, 1 << 4);
        targets("32;.#p#p#", 1, 1 << 0);
        targets("23;pp####", 0, 0);
        targets("23;p.p###", 0, 0);
        targets("23;ppp###", 0, 0);
        targets("23;ps.###", 0, 0);
        targets("23;px.###", 0, 1 << 2);
        targets("23;pf.###", 0, 1 << 2);
        targets("23;pb.###", 0, 1 << 2);
        targets("23;sp.###", 0, 1 << 2);
        targets("23;fp.###", 0, 1 << 2);
        targets("33;p...p....", 0, 0);
        targets("33;....p...p", 1, 0);
        targets("33;..p.p....", 0, 0);
        targets("33;....p.p..", 1, 0);
        targets("33;s...p....", 0, 0);
        targets("33;f...p....", 0, 0);
        targets("33;ppppp....", 1, 1 << 7);
        targets("33;ppppp....", 3, 1 << 5);
    }

    private static void targetsOfSlantsAndBoths() {
        targets("33;xp.pp....", 0, 1 << 8);
        targets("33;....p...x", 1, 1 << 0);
        targets("33;..x.p....", 0, 1 << 6);
        targets("33;....p.x..", 1, 1 << 2);
        targets("33;x...s....", 0, 0);
        targets("33;x...p...#", 0, 0);
        targets("33;x...p...p", 0, 0);
        targets("33;bp.pp....", 0, 1 << 2 | 1 << 6 | 1 << 8);
        targets("33;bp.ps....", 0, 1 << 2 | 1 << 6);
        targets("33;bx.sf....", 0, 1 << 2 | 1 << 8);
    }

    private static void targetsAtTheEdges() {
        // A row has its end: no one jumps out of it into the next.
        targets("24;..pp....", 0, 0);
        targets("33;.pp......", 0, 0);
        targets("33;.bb......", 0, 0);
        targets("33;....x.p..", 0, 0);
        targets("43;...x.p.p....", 0, 1 << 11);
        targets("42;b.bb.b..", 0, 1 << 4);
        targets("34;bbbb........", 0, 0);
    }

    private static void sortsAndAsk() {
        PegField x = Due.on("22;ps..");
        due.is("sorts", x.peg(0, 3), 31);
        due.is("ask", x.peg(0, 4), 1);
        x.see(0, 1, false);
        due.is("sorts, not aslant", x.peg(0, 3), 1 | 4 | 8);
        due.is("ask, not aslant", x.peg(0, 4), 2);
        x.see(0, 2, true);
        due.is("sorts, jumped over", x.peg(0, 3), 1 | 8);
        due.is("ask, jumped over", x.peg(0, 4), 3);
        x.see(0, 3, false);
        due.is("sorts, frail", x.peg(0, 3), 8);
        due.is("ask, frail", x.peg(0, 4), 0);
        x.see(0, 3, true);
        due.is("sorts, none", x.peg(0, 3), 0);
        due.is("ask, none", x.peg(0, 4), PegField.NONE);
        due.is("sorts of another", x.peg(1, 3), 31);
    }

    private static void takenAs() {
        PegField x = Due.on("32;pxsfb.");
        int[][] want = {
            {0, -1, -1, -1, -1},
            {1, 1, -1, -1, -1},
            {2, -1, 2, -1, -1},
            {3, -1, -1, 3, -1},
            {4, 4, -1, -1, 4},
        };
        for (int peg = 0; peg < 5; peg++) {
            for (int kind = 0; kind < 5; kind++) {
                due.is("as(" + peg + ", " + kind + ")", x.as(peg, kind), want[peg][kind]);
            }
        }
        due.is("as(5, 0)", x.as(5, 0), PegField.UNKNOWN);
        due.is("as(-1, 0)", x.as(-1, 0), PegField.UNKNOWN);
        due.is("as(5, 5)", x.as(5, 5), PegField.UNKNOWN);
        due.is("as(0, 5)", x.as(0, 5), PegField.OUTSIDE);
        due.is("as(0, -1)", x.as(0, -1), PegField.OUTSIDE);
        due.is("as without a board", new PegField().as(0, 0), PegField.UNKNOWN);
        x.be(0, 4);
        due.is("as another kind", x.as(0, 1), 0);
        PegField off = Due.on("23;fb.###");
        off.jump(0, 2);
        due.is("as, OFF", off.as(0, 3), 0);
        due.is("as, OFF, the other", off.as(1, 1), 1);
        due.is("as none such, OFF", off.as(0, 1), PegField.NONE);
    }

    private static void places() {
        PegField x = Due.on("23;p.#.xs");
        int[] holes = {1, 1, 0, 1, 1, 1};
        int[] pegs = {0, -1, -1, -1, 1, 2};
        for (int place = 0; place < 6; place++) {
            due.is("hole " + place, x.place(place, 0), holes[place]);
            due.is("peg in " + place, x.place(place, 1), pegs[place]);
        }
        due.is("place(6)", x.place(6, 0), PegField.UNKNOWN);
        due.is("place(-1)", x.place(-1, 0), PegField.UNKNOWN);
        due.is("place(min)", x.place(Integer.MIN_VALUE, 0), PegField.UNKNOWN);
        due.is("place(6, 2)", x.place(6, 2), PegField.UNKNOWN);
        due.is("place(0, 2)", x.place(0, 2), PegField.OUTSIDE);
        due.is("place(0, -1)", x.place(0, -1), PegField.OUTSIDE);
    }
}
