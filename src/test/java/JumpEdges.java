/** The edges of jumps, of what pegs and places are, and of promises 6 to 13, sentence by sentence. */
final class JumpEdges {
    private static final int[] FAR = {Integer.MIN_VALUE, -101, -2, -1, 100, Integer.MAX_VALUE};
    private static final String LETTERS = "pxsfb";

    private final Sentences s;

    JumpEdges(Sentences itsSentences) {
        s = itsSentences;
    }

    void all() {
        termsOfPegsAndPlaces();
        termsOfJumps();
        termsOfPutAndPlug();
        peg();
        as();
        place();
        jump();
        put();
        plug();
        bore();
        be();
    }

    private void termsOfPegsAndPlaces() {
        termsNumbered();
        termsAtFirst();
        termsKinds();
        termsBothIsSlant();
    }

    private void termsOfJumps() {
        termsFromItsPlace();
        termsNoStone();
        termsVeryNextPlace();
        termsEmptyHole();
        termsStraight();
        termsAslant();
        termsOneIsOff();
        termsFrailIsOff();
        termsOffIsNowhere();
    }

    private void termsOfPutAndPlug() {
        termsPut();
        termsPlugAndBore();
    }

    // ---- pegs and places

    private void termsNumbered() {
        s.of(0, "PLACES are numbered from 0, row by row, PEGS from 0 as they are told.");
        PegField x = Due.on("34;..p#x...s.fb");
        int[] homes = {2, 4, 8, 10, 11};
        for (int peg = 0; peg < homes.length; peg++) {
            s.is("place of peg " + peg, x.peg(peg, 1), homes[peg]);
            s.is("peg in " + homes[peg], x.place(homes[peg], 1), peg);
        }
        s.is("no peg 5", x.peg(5, 1), PegField.UNKNOWN);
        s.is("no place 12", x.place(12, 1), PegField.UNKNOWN);
        s.is("place 4 is below place 0", Due.on("34;p...p.......").peg(0, 2), 1 << 8);
        s.is("place 3 is below place 0", Due.on("43;p..p........").peg(0, 2), 1 << 6);
    }

    private void termsAtFirst() {
        s.of(0, "At first there is none; then nobody has jumped.");
        PegField x = new PegField();
        s.is("pegs", x.count(3), 0);
        Due.type(x, "23;pp.###");
        x.board();
        s.is("jumps that were", x.count(6), 0);
        x.jump(0, 2);
        s.is("one was", x.count(6), 1);
        Due.type(x, "23;pp.###");
        x.board();
        s.is("jumps that were, of another board", x.count(6), 0);
    }

    private void termsKinds() {
        s.of(0, "KINDS are told by the letter: 0 PEG \"p\", 1 SLANT \"x\", 2 STONE \"s\", 3 FRAIL \"f\", 4 BOTH \"b\".");
        for (int kind = 0; kind < 5; kind++) {
            s.is("kind of " + LETTERS.charAt(kind), Due.on("22;..." + LETTERS.charAt(kind)).peg(0, 0), kind);
        }
    }

    private void termsBothIsSlant() {
        s.of(0, "All are PEGS; a BOTH is a SLANT, too.");
        PegField x = Due.on("32;pxsfb.");
        for (int peg = 0; peg < 5; peg++) {
            s.is(peg + " is a peg", x.as(peg, 0), peg);
            s.is(peg + " is a slant", x.as(peg, 1), peg == 1 || peg == 4 ? peg : PegField.NONE);
            s.is(peg + " is a both", x.as(peg, 4), peg == 4 ? peg : PegField.NONE);
        }
    }

    // ---- jumps

    private void targets(String board, int peg, int want) {
        s.is("targets of " + peg + " on " + board, Due.on(board).peg(peg, 2), want);
    }

    private void termsFromItsPlace() {
        s.of(0, "A JUMP of a PEG takes it from its PLACE over another PEG");
        PegField x = Due.on("23;pp.###");
        s.is("jump", x.jump(0, 2), 1);
        s.is("it is there", x.place(2, 1), 0);
        s.is("it is there, told by the peg", x.peg(0, 1), 2);
        s.is("its place is empty", x.place(0, 1), PegField.NONE);
        s.is("its place is a hole", x.place(0, 0), 1);
        targets("24;p...####", 0, 0);
        targets("24;p#..####", 0, 0);
    }

    private void termsNoStone() {
        s.of(0, "that is no STONE");
        for (int over = 0; over < 5; over++) {
            for (int kind = 0; kind < 5; kind++) {
                char sign = LETTERS.charAt(over);
                String call = LETTERS.charAt(kind) + " over " + sign;
                boolean isStraight = kind != 1;
                boolean isAslant = kind == 1 || kind == 4;
                PegField x = Due.on("23;" + LETTERS.charAt(kind) + sign + ".###");
                s.is(call, x.peg(0, 2), over != 2 && isStraight ? 1 << 2 : 0);
                x = Due.on("33;" + LETTERS.charAt(kind) + "###" + sign + "###.");
                s.is(call + " aslant", x.peg(0, 2), over != 2 && isAslant ? 1 << 8 : 0);
            }
        }
    }

    /** To which places a peg at from could go over the only other one, at over, reckoned by rows and columns. */
    private static int targetsByHand(int rows, int columns, int from, int over, boolean isStraight, boolean isAslant) {
        int down = over / columns - from / columns;
        int right = over % columns - from % columns;
        boolean isBeside = Math.abs(down) <= 1 && Math.abs(right) <= 1;
        boolean isGoing = Math.abs(down) + Math.abs(right) == 1 ? isStraight : isAslant;
        int row = over / columns + down;
        int column = over % columns + right;
        boolean isThere = row >= 0 && row < rows && column >= 0 && column < columns;
        return isBeside && isGoing && isThere ? 1 << (row * columns + column) : 0;
    }

    private void termsVeryNextPlace() {
        s.of(0, "at the very next PLACE in some way, to the next one behind that in the same way");
        for (String head : new String[] {"22", "23", "24", "32", "33", "34", "42", "43"}) {
            int rows = head.charAt(0) - '0';
            int columns = head.charAt(1) - '0';
            for (int from = 0; from < rows * columns; from++) {
                for (int over = 0; over < rows * columns; over++) {
                    if (from != over) {
                        everyKind(head, rows, columns, from, over);
                    }
                }
            }
        }
    }

    private void everyKind(String head, int rows, int columns, int from, int over) {
        for (int kind = 0; kind < 5; kind++) {
            StringBuilder text = new StringBuilder(head).append(';').append(".".repeat(rows * columns));
            text.setCharAt(3 + from, LETTERS.charAt(kind));
            text.setCharAt(3 + over, 'p');
            int want = targetsByHand(rows, columns, from, over, kind != 1, kind == 1 || kind == 4);
            int peg = from < over ? 0 : 1;
            targets(text.toString(), peg, want);
            if (want != 0) {
                int to = Integer.numberOfTrailingZeros(want);
                PegField x = Due.on(text.toString());
                s.is("jump on " + text, x.jump(peg, to), kind == 3 ? 0 : 1);
                s.is("who is there then, on " + text, x.place(to, 1), kind == 3 ? PegField.NONE : peg);
            }
        }
    }

    private void termsEmptyHole() {
        s.of(0, "which is a HOLE that is empty");
        targets("23;pp.###", 0, 1 << 2);
        targets("23;pp####", 0, 0);
        for (int kind = 0; kind < 5; kind++) {
            targets("23;pp" + LETTERS.charAt(kind) + "###", 0, 0);
            targets("33;x###p###" + LETTERS.charAt(kind), 0, 0);
        }
        targets("33;x###p####", 0, 0);
        PegField x = Due.on("24;ppp.####");
        s.is("it is not empty", x.peg(0, 2), 0);
        x.jump(1, 3);
        s.is("there is nobody beside", x.peg(0, 2), 0);
        x.put(2, 1);
        s.is("it is empty", x.peg(0, 2), 1 << 2);
        x.plug(2);
        s.is("it is plugged", x.peg(0, 2), 0);
        x.bore(2);
        s.is("it is bored", x.peg(0, 2), 1 << 2);
    }

    private void termsStraight() {
        s.of(0, "a plain PEG, a STONE and a FRAIL go along their row or their column");
        for (char sign : new char[] {'p', 's', 'f'}) {
            targets("33;" + sign + "p.pp....", 0, 1 << 2 | 1 << 6);
            targets("33;....pp.p" + sign, 3, 1 << 2 | 1 << 6);
            targets("33;.p" + sign + ".pp...", 1, 1 << 0 | 1 << 8);
        }
    }

    private void termsAslant() {
        s.of(0, "a SLANT aslant (one row and one column at once), a BOTH all these ways.");
        targets("33;xp.pp....", 0, 1 << 8);
        targets("33;....pp.px", 3, 1 << 0);
        targets("33;.px.pp...", 1, 1 << 6);
        targets("33;...pp.xp.", 2, 1 << 2);
        targets("33;bp.pp....", 0, 1 << 2 | 1 << 6 | 1 << 8);
        targets("33;....pp.pb", 3, 1 << 0 | 1 << 2 | 1 << 6);
        targets("33;.pb.pp...", 1, 1 << 0 | 1 << 6 | 1 << 8);
        // Two rows and one column are not aslant, nor one row and two columns.
        targets("43;x......p....", 0, 0);
        targets("34;x.....p.....", 0, 0);
    }

    private void termsOneIsOff() {
        s.of(0, "The one that was jumped over is OFF then");
        for (char sign : new char[] {'p', 'x', 'f', 'b'}) {
            PegField x = Due.on("23;p" + sign + ".###");
            s.is("jump over " + sign, x.jump(0, 2), 1);
            s.is("it is OFF", x.peg(1, 1), PegField.NONE);
            s.is("nobody is there", x.place(1, 1), PegField.NONE);
            s.is("its hole stays", x.place(1, 0), 1);
            s.is("pegs", x.count(3), 2);
            s.is("pegs on the board", x.count(4), 1);
        }
    }

    private void termsFrailIsOff() {
        s.of(0, "a FRAIL is OFF itself, too, when it has JUMPED (it is at its new PLACE no more).");
        for (char sign : new char[] {'p', 'x', 'f', 'b'}) {
            PegField x = Due.on("23;f" + sign + ".###");
            s.is("jump over " + sign, x.jump(0, 2), 0);
            s.is("it is OFF", x.peg(0, 1), PegField.NONE);
            s.is("nobody is at its new place", x.place(2, 1), PegField.NONE);
            s.is("nobody is at its old place", x.place(0, 1), PegField.NONE);
            s.is("it has jumped", x.count(6), 1);
            s.is("none are left", x.count(4), 0);
        }
        PegField x = Due.on("23;pf.###");
        s.is("one that is jumped over has not jumped", x.jump(0, 2), 1);
        x = Due.on("24;fp.p####");
        s.is("its new place must be empty all the same", x.jump(0, 2), 1);
        x = Due.on("23;fpp###");
        s.is("it is not empty", x.peg(0, 2), 0);
    }

    private void termsOffIsNowhere() {
        s.of(0, "PEGS that are OFF are nowhere.");
        PegField x = Due.on("24;fpp.####");
        x.jump(1, 3);
        x.put(2, 1);
        x.jump(0, 2);
        // 0 and 2 are OFF, 1 is at 3.
        for (int peg = 0; peg <= 2; peg += 2) {
            s.is("place of " + peg, x.peg(peg, 1), PegField.NONE);
            s.is("targets of " + peg, x.peg(peg, 2), 0);
            for (int place = 0; place < 8; place++) {
                int to = place;
                int of = peg;
                s.is(peg + " is not in " + place, x.place(place, 1) == peg ? 1 : 0, 0);
                s.refuses(x, "jump of " + peg + " to " + place, PegField.STATE, () -> x.jump(of, to));
            }
        }
        s.is("nobody can be jumped over", x.count(5), 0);
        s.is("all empty holes can be plugged", x.plug(0) + x.plug(1) + x.plug(2), 3 + 2 + 1);
    }

    private void termsPut() {
        s.of(0, "A PEG that is OFF can be PUT into a HOLE that is empty.");
        PegField x = Due.on("24;fp.p..##");
        x.jump(0, 2);
        s.is("put the one that jumped", x.put(0, 0), 2);
        s.is("put the other", x.put(1, 5), 3);
        s.is("nobody is beside another", x.count(5), 0);
        PegField y = Due.on("23;fp.###");
        y.jump(0, 2);
        y.put(0, 2);
        y.put(1, 1);
        s.is("it jumps back", y.jump(0, 0), 0);
    }

    private void termsPlugAndBore() {
        s.of(0, "A HOLE that is empty can be PLUGGED, so that there is none, and BORED where there is none.");
        PegField x = Due.on("22;p..#");
        s.is("plug", x.plug(1), 2);
        s.is("there is none", x.place(1, 0), 0);
        s.is("bore", x.bore(1), 3);
        s.is("there is one", x.place(1, 0), 1);
        s.is("bore where there never was one", x.bore(3), 4);
        s.is("there is one", x.place(3, 0), 1);
        s.is("nobody is in it", x.place(3, 1), PegField.NONE);
        s.is("plug it", x.plug(3), 3);
    }

    // ---- promises 6 to 8

    private void peg() {
        p06Kind();
        p06Place();
        p06Targets();
        p06Sorts();
        p06Ask();
        p06Refusals();
    }

    private void p06Kind() {
        s.of(6, "Of a PEG: what = 0 KIND");
        PegField x = Due.on("33;pxsfb..ps");
        int[] kinds = {0, 1, 2, 3, 4, 0, 2};
        for (int peg = 0; peg < 7; peg++) {
            s.is("kind of " + peg, x.peg(peg, 0), kinds[peg]);
        }
        x.be(6, 3);
        s.is("of another kind", x.peg(6, 0), 3);
        x.see(6, 0, false);
        s.is("what is seen is another thing", x.peg(6, 0), 3);
    }

    private void p06Place() {
        s.of(6, "1 at which PLACE it is (NONE: OFF)");
        s.is("the first", Due.on("34;p...........").peg(0, 1), 0);
        s.is("the last", Due.on("34;...........p").peg(0, 1), 11);
        PegField x = Due.on("23;pf.###");
        x.jump(0, 2);
        s.is("it jumped", x.peg(0, 1), 2);
        s.is("OFF", x.peg(1, 1), PegField.NONE);
        x.put(1, 0);
        s.is("put", x.peg(1, 1), 0);
    }

    private void p06Targets() {
        s.of(6, "2 to which it can JUMP now, as bits");
        targets("34;...........b", 0, 0);
        targets("34;.........pp.", 0, 1 << 11);
        targets("34;.pp.........", 1, 1 << 0);
        targets("43;......b..b..", 1, 1 << 3);
        // Three ways are the most that one peg has on so small a board.
        targets("33;bp.pp....", 0, 1 << 2 | 1 << 6 | 1 << 8);
        targets("33;pbp.p....", 1, 1 << 7);
        targets("34;.bp..pp.....", 0, 1 << 3 | 1 << 9 | 1 << 11);
        PegField x = Due.on("33;b.......p");
        s.is("nobody beside", x.peg(0, 2), 0);
    }

    private void p06Sorts() {
        s.of(6, "3 SORTS, as bits");
        PegField x = Due.on("22;sb..");
        s.is("nothing is seen", x.peg(0, 3), 31);
        x.see(0, 2, false);
        s.is("a stone", x.peg(0, 3), 1 << 2);
        s.is("nothing is seen of the other", x.peg(1, 3), 31);
        x.see(0, 1, true);
        s.is("none at all", x.peg(0, 3), 0);
    }

    private void p06Ask() {
        s.of(6, "4 ASK (NONE)");
        PegField x = Due.on("22;sb..");
        s.is("all are left: by 1 three at worst, by all others four", x.peg(0, 4), 1);
        x.see(0, 2, false);
        s.is("one is left: all are like", x.peg(0, 4), 0);
        x.see(0, 2, true);
        s.is("none are left", x.peg(0, 4), PegField.NONE);
        s.is("of the other", x.peg(1, 4), 1);
    }

    private void p06Refusals() {
        s.of(6, "UNKNOWN; OUTSIDE.");
        PegField x = Due.on("34;ppppppp.....");
        PegField one = Due.on("22;p...");
        x.add();
        for (int far : FAR) {
            s.refuses(x, "peg(" + far + ", 0)", PegField.UNKNOWN, () -> x.peg(far, 0));
            s.refuses(x, "peg(" + far + ", 9)", PegField.UNKNOWN, () -> x.peg(far, 9));
            s.refuses(x, "peg(0, " + far + ")", PegField.OUTSIDE, () -> x.peg(0, far));
        }
        // The eighth, of which ADD thinks, is none.
        for (int what = -1; what <= 5; what++) {
            int asked = what;
            s.refuses(x, "peg(7, " + what + ")", PegField.UNKNOWN, () -> x.peg(7, asked));
            s.refuses(one, "peg(1, " + what + ")", PegField.UNKNOWN, () -> one.peg(1, asked));
        }
        s.refuses(x, "peg(6, 5)", PegField.OUTSIDE, () -> x.peg(6, 5));
        s.is("peg(6, 4)", x.peg(6, 4), 1);
    }

    private void as() {
        s.of(7, "A PEG taken as a KIND: its number");
        PegField x = Due.on("33;..pxsfbbx");
        s.is("as(6, 0)", x.as(6, 0), 6);
        s.is("as(6, 1)", x.as(6, 1), 6);
        s.is("as(5, 1)", x.as(5, 1), 5);
        s.is("as(5, 4)", x.as(5, 4), 5);
        s.is("as(2, 0)", x.as(2, 0), 2);
        s.is("as(0, 0)", x.as(0, 0), 0);
        s.of(7, "NONE: it is none such (the cast fails).");
        s.is("a slant is no both", x.as(6, 4), PegField.NONE);
        s.is("a peg is no slant", x.as(0, 1), PegField.NONE);
        s.is("a stone is no frail", x.as(2, 3), PegField.NONE);
        s.is("a frail is no stone", x.as(3, 2), PegField.NONE);
        s.is("a both is no stone", x.as(4, 2), PegField.NONE);
        for (int own = 0; own < 5; own++) {
            PegField one = Due.on("22;..." + LETTERS.charAt(own));
            for (int kind = 0; kind < 5; kind++) {
                boolean isSuch = kind == 0 || kind == own || kind == 1 && own == 4;
                s.is(own + " as " + kind, one.as(0, kind), isSuch ? 0 : PegField.NONE);
            }
        }
        x.be(4, 2);
        s.is("it is one then", x.as(4, 2), 4);
        s.is("and no slant", x.as(4, 1), PegField.NONE);
        s.of(7, "UNKNOWN; OUTSIDE.");
        for (int far : FAR) {
            s.refuses(x, "as(" + far + ", 0)", PegField.UNKNOWN, () -> x.as(far, 0));
            s.refuses(x, "as(" + far + ", 5)", PegField.UNKNOWN, () -> x.as(far, 5));
            s.refuses(x, "as(0, " + far + ")", PegField.OUTSIDE, () -> x.as(0, far));
        }
        s.refuses(x, "as(7, 0)", PegField.UNKNOWN, () -> x.as(7, 0));
        s.refuses(x, "as(0, 5)", PegField.OUTSIDE, () -> x.as(0, 5));
    }

    private void place() {
        s.of(8, "Of a PLACE: what = 0 whether there is a HOLE (1, 0)");
        PegField x = Due.on("34;p#.........#");
        s.is("with a peg", x.place(0, 0), 1);
        s.is("with none", x.place(10, 0), 1);
        s.is("no hole", x.place(1, 0), 0);
        s.is("the last", x.place(11, 0), 0);
        x.bore(11);
        s.is("the last, bored", x.place(11, 0), 1);
        s.of(8, "1 which PEG is there (NONE).");
        s.is("a peg", x.place(0, 1), 0);
        s.is("no hole", x.place(1, 1), PegField.NONE);
        s.is("an empty hole", x.place(2, 1), PegField.NONE);
        s.is("the seventh", Due.on("34;.....ppppppp").place(11, 1), 6);
        s.of(8, "UNKNOWN; OUTSIDE.");
        PegField small = Due.on("22;p...");
        for (int far : FAR) {
            s.refuses(x, "place(" + far + ", 0)", PegField.UNKNOWN, () -> x.place(far, 0));
            s.refuses(x, "place(" + far + ", 2)", PegField.UNKNOWN, () -> x.place(far, 2));
            s.refuses(x, "place(0, " + far + ")", PegField.OUTSIDE, () -> x.place(0, far));
        }
        s.refuses(x, "place(12, 0)", PegField.UNKNOWN, () -> x.place(12, 0));
        s.refuses(x, "place(11, 2)", PegField.OUTSIDE, () -> x.place(11, 2));
        s.refuses(small, "place(4, 0)", PegField.UNKNOWN, () -> small.place(4, 0));
        s.is("place(3, 0)", small.place(3, 0), 1);
    }

    // ---- promises 9 to 13

    private void jump() {
        s.of(9, "A PEG JUMPS to a PLACE: how many PEGS are on the board then.");
        PegField x = Due.on("24;pp.p####");
        s.is("two are left", x.jump(0, 2), 2);
        s.is("one is left", x.jump(2, 1), 1);
        s.is("none is left", Due.on("23;fb.###").jump(0, 2), 0);
        s.is("six are left", Due.on("34;pp.ppppp....").jump(0, 2), 6);
        p09Unknown();
        p09ItCannot();
        p09Full();
    }

    private void p09Unknown() {
        s.of(9, "UNKNOWN: peg, place");
        PegField x = Due.on("23;pp.###");
        for (int far : FAR) {
            s.refuses(x, "jump(" + far + ", 2)", PegField.UNKNOWN, () -> x.jump(far, 2));
            s.refuses(x, "jump(0, " + far + ")", PegField.UNKNOWN, () -> x.jump(0, far));
            s.refuses(x, "jump(" + far + ", " + far + ")", PegField.UNKNOWN, () -> x.jump(far, far));
        }
        s.refuses(x, "jump(2, 2)", PegField.UNKNOWN, () -> x.jump(2, 2));
        s.refuses(x, "jump(0, 6)", PegField.UNKNOWN, () -> x.jump(0, 6));
        // A place that there is none of beats a jump that cannot be.
        s.refuses(x, "jump(1, 6)", PegField.UNKNOWN, () -> x.jump(1, 6));
        x.jump(0, 2);
        s.refuses(x, "jump of one that is OFF to nowhere", PegField.UNKNOWN, () -> x.jump(1, -1));
    }

    private void p09ItCannot() {
        s.of(9, "STATE: it cannot");
        String[] boards = {"23;pp.###", "23;ps.###", "23;pp####", "23;ppp###", "23;p..###", "23;xp.###", "33;p...p....",
            "33;b...s....", "24;..pp....", "22;pp..", "22;p..."};
        for (String board : boards) {
            PegField x = Due.on(board);
            for (int peg = 0; peg < x.count(3); peg++) {
                for (int place = 0; place < board.length() - 3; place++) {
                    int of = peg;
                    int to = place;
                    if ((x.peg(peg, 2) >> place & 1) == 0) {
                        s.refuses(x, "jump(" + peg + ", " + place + ") on " + board, PegField.STATE, () -> x.jump(of, to));
                    }
                }
            }
            s.is("jumps that were on " + board, x.count(6), 0);
        }
        s.is("but one can", Due.on("23;pp.###").jump(0, 2), 1);
        s.is("another can", Due.on("24;..pp....").jump(1, 1), 1);
    }

    // 512 calls end long before 999 jumps, so this goes on beyond what is promised.
    private void p09Full() {
        s.of(9, "FULL: 999 did.");
        PegField x = Due.on("23;pp.###");
        for (int jumps = 1; jumps <= 999; jumps++) {
            s.is("jump " + jumps, x.jump(0, jumps % 2 == 1 ? 2 : 0), 1);
            x.put(1, 1);
        }
        s.refuses(x, "jump 1000", PegField.FULL, () -> x.jump(0, 0));
        s.refuses(x, "jump 1000 of one that cannot", PegField.STATE, () -> x.jump(1, 0));
        s.refuses(x, "jump 1000 of none", PegField.UNKNOWN, () -> x.jump(2, 0));
    }

    private void put() {
        s.of(10, "A PEG that is OFF is PUT: how many are on the board then.");
        PegField x = Due.on("23;fp.s##");
        x.jump(0, 2);
        s.is("one more than one", x.put(1, 2), 2);
        s.is("one more than two", x.put(0, 0), 3);
        s.is("it is there", x.peg(1, 1), 2);
        s.is("the place has it", x.place(2, 1), 1);
        PegField none = Due.on("23;fp.###");
        none.jump(0, 2);
        s.is("one more than none", none.put(0, 1), 1);
        PegField full = Due.on("34;pp.ppppp....");
        full.jump(0, 2);
        s.is("the seventh", full.put(1, 11), 7);
        p10Unknown();
        p10NotOff();
        p10NoEmptyHole();
    }

    private void p10Unknown() {
        s.of(10, "UNKNOWN: peg, place");
        PegField x = Due.on("23;pp.###");
        x.jump(0, 2);
        for (int far : FAR) {
            s.refuses(x, "put(" + far + ", 0)", PegField.UNKNOWN, () -> x.put(far, 0));
            s.refuses(x, "put(1, " + far + ")", PegField.UNKNOWN, () -> x.put(1, far));
        }
        s.refuses(x, "put(2, 0)", PegField.UNKNOWN, () -> x.put(2, 0));
        s.refuses(x, "put(1, 6)", PegField.UNKNOWN, () -> x.put(1, 6));
        s.refuses(x, "put(0, 6), that is not OFF", PegField.UNKNOWN, () -> x.put(0, 6));
    }

    private void p10NotOff() {
        s.of(10, "STATE: it is not OFF");
        PegField x = Due.on("23;pp.#..");
        for (int place = 0; place < 6; place++) {
            int to = place;
            s.refuses(x, "put(0, " + place + ")", PegField.STATE, () -> x.put(0, to));
        }
        x.jump(0, 2);
        s.refuses(x, "put(0, 0), that jumped", PegField.STATE, () -> x.put(0, 0));
        x.put(1, 0);
        s.refuses(x, "put(1, 1), that was put", PegField.STATE, () -> x.put(1, 1));
    }

    private void p10NoEmptyHole() {
        s.of(10, "or there is no HOLE that is empty.");
        PegField x = Due.on("23;pp.#.s");
        x.jump(0, 2);
        s.refuses(x, "put(1, 2), where one is", PegField.STATE, () -> x.put(1, 2));
        s.refuses(x, "put(1, 5), where a stone is", PegField.STATE, () -> x.put(1, 5));
        s.refuses(x, "put(1, 3), where no hole is", PegField.STATE, () -> x.put(1, 3));
        x.plug(4);
        s.refuses(x, "put(1, 4), that was plugged", PegField.STATE, () -> x.put(1, 4));
        x.bore(3);
        s.is("put(1, 3), that was bored", x.put(1, 3), 3);
        s.is("it is there", x.place(3, 1), 1);
    }

    private void plug() {
        s.of(11, "A HOLE is PLUGGED: how many HOLES there are then.");
        PegField x = Due.on("34;p...........");
        for (int place = 1; place < 12; place++) {
            s.is("plug " + place, x.plug(place), 12 - place);
        }
        s.is("holes", x.count(2), 1);
        PegField none = Due.on("23;fp.###");
        none.jump(0, 2);
        s.is("the last but two", none.plug(0), 2);
        s.is("the last but one", none.plug(1), 1);
        s.is("the last", none.plug(2), 0);
        s.of(11, "UNKNOWN");
        for (int far : FAR) {
            s.refuses(x, "plug " + far, PegField.UNKNOWN, () -> x.plug(far));
        }
        s.refuses(x, "plug 12", PegField.UNKNOWN, () -> x.plug(12));
        s.refuses(none, "plug 6", PegField.UNKNOWN, () -> none.plug(6));
        s.of(11, "STATE: there is none, or a PEG in it.");
        s.refuses(x, "plug 0, where a peg is", PegField.STATE, () -> x.plug(0));
        s.refuses(x, "plug 11, again", PegField.STATE, () -> x.plug(11));
        s.refuses(none, "plug 5, where there never was one", PegField.STATE, () -> none.plug(5));
        // The places by which 32 and 33 would be taken as 0 and 1, if bits were counted round.
        s.refuses(x, "plug 32", PegField.UNKNOWN, () -> x.plug(32));
        s.refuses(x, "plug 33", PegField.UNKNOWN, () -> x.plug(33));
    }

    private void bore() {
        s.of(12, "A HOLE is BORED: how many HOLES there are then.");
        PegField x = Due.on("34;p###########");
        for (int place = 1; place < 12; place++) {
            s.is("bore " + place, x.bore(place), place + 1);
        }
        s.is("holes", x.count(2), 12);
        s.of(12, "UNKNOWN");
        PegField small = Due.on("22;p###");
        for (int far : FAR) {
            s.refuses(small, "bore " + far, PegField.UNKNOWN, () -> small.bore(far));
        }
        s.refuses(x, "bore 12", PegField.UNKNOWN, () -> x.bore(12));
        s.refuses(small, "bore 4", PegField.UNKNOWN, () -> small.bore(4));
        s.refuses(small, "bore 33", PegField.UNKNOWN, () -> small.bore(33));
        s.of(12, "STATE: there is one.");
        s.refuses(x, "bore 0, where a peg is", PegField.STATE, () -> x.bore(0));
        s.refuses(x, "bore 11, again", PegField.STATE, () -> x.bore(11));
        small.bore(3);
        small.plug(3);
        s.is("bore 3, that was plugged", small.bore(3), 2);
    }

    private void be() {
        s.of(13, "A PEG is of another KIND: of which it was.");
        PegField x = Due.on("23;pb.###");
        int was = 0;
        for (int kind : new int[] {4, 3, 2, 1, 0, 0, 2, 2, 4}) {
            s.is("be " + kind, x.be(0, kind), was);
            s.is("it is", x.peg(0, 0), kind);
            was = kind;
        }
        s.is("one that is OFF", x.jump(0, 2) + 10 * x.be(1, 2), 1 + 10 * 4);
        s.is("it is still OFF", x.peg(1, 1), PegField.NONE);
        s.of(13, "UNKNOWN");
        for (int far : FAR) {
            s.refuses(x, "be(" + far + ", 0)", PegField.UNKNOWN, () -> x.be(far, 0));
            s.refuses(x, "be(" + far + ", 5)", PegField.UNKNOWN, () -> x.be(far, 5));
        }
        s.refuses(x, "be(2, 0)", PegField.UNKNOWN, () -> x.be(2, 0));
        s.of(13, "OUTSIDE: kind (0 to 4).");
        for (int far : FAR) {
            s.refuses(x, "be(0, " + far + ")", PegField.OUTSIDE, () -> x.be(0, far));
        }
        s.refuses(x, "be(0, 5)", PegField.OUTSIDE, () -> x.be(0, 5));
        s.is("be(0, 0)", x.be(0, 0), 4);
        s.is("be(0, 4)", x.be(0, 4), 0);
    }
}
