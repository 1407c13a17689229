/** The edges of the text of a board, and of promises 1 to 5, sentence by sentence. */
final class BoardEdges {
    private static final String[] HEADS = {"22", "23", "24", "32", "33", "34", "42", "43"};
    private static final int[] FAR = {Integer.MIN_VALUE, -101, -1, Integer.MAX_VALUE};

    private final Sentences s;

    BoardEdges(Sentences itsSentences) {
        s = itsSentences;
    }

    void all() {
        textRows();
        textColumns();
        textColumnsMultiplied();
        textSemicolon();
        textAsManySigns();
        textSigns();
        textSevenPegs();
        textOnePeg();
        calls512();
        constants();
        p01NoBoard();
        p02Letter();
        p02CodeIsOutside();
        p02Above18();
        p03Blank();
        p04FirstFault();
        p04NeedNotGoOn();
        p04NoFault();
        p05AnotherIsGone();
        p05HowManyPegs();
        p05PageIsEmptyThen();
        p05ItIsNone();
    }

    // ---- helpers

    private static PegField page(String text) {
        PegField x = new PegField();
        Due.type(x, text);
        return x;
    }

    private static int places(String head) {
        return (head.charAt(0) - '0') * (head.charAt(1) - '0');
    }

    /** A board of that head, with the signs ahead and empty holes behind them. */
    private static String filled(String head, String signs) {
        return head + ";" + signs + ".".repeat(places(head) - signs.length());
    }

    private void fault(String text, int want) {
        s.is("fault of " + text, page(text).fault(), want);
    }

    private void isNone(String text) {
        PegField x = page(text);
        s.refuses(x, "board of " + text, PegField.STATE, x::board);
        s.is("no board was read of " + text, x.count(9), 0);
    }

    private void isBoard(String text, int pegs) {
        PegField x = page(text);
        s.is("fault of " + text, x.fault(), text.length());
        s.is("board of " + text, x.board(), pegs);
        s.is("rows of " + text, x.count(0), text.charAt(0) - '0');
        s.is("columns of " + text, x.count(1), text.charAt(1) - '0');
    }

    /** Behind the text each sign of the page is tried: those that may stand there, and no others. */
    private void onlyGoesOnWith(String text, String signs) {
        for (char sign = 32; sign <= 126; sign++) {
            fault(text + sign, signs.indexOf(sign) >= 0 ? text.length() + 1 : text.length());
        }
    }

    // ---- the text of a board

    private void textRows() {
        s.of(0, "A BOARD is a text: two digits, how many ROWS (2 to 4)");
        onlyGoesOnWith("", "234");
        isNone("12;p.");
        isNone("02;");
        isNone("52;p.........");
        isBoard("22;p...", 1);
        isBoard("32;p.....", 1);
        isBoard("42;p.......", 1);
    }

    private void textColumns() {
        s.of(0, "how many COLUMNS (2 to 4");
        onlyGoesOnWith("2", "234");
        onlyGoesOnWith("3", "234");
        isNone("21;p.");
        isNone("20;");
        isNone("25;p.........");
        isBoard("23;p.....", 1);
        isBoard("24;p.......", 1);
    }

    private void textColumnsMultiplied() {
        s.of(0, "of both together, multiplied, 12 at most)");
        onlyGoesOnWith("4", "23");
        isNone("44;p..............");
        isBoard("34;p...........", 1);
        isBoard("43;p...........", 1);
        isBoard("33;p........", 1);
    }

    private void textSemicolon() {
        s.of(0, "\";\"");
        onlyGoesOnWith("22", ";");
        onlyGoesOnWith("43", ";");
        isNone("22:p...");
        isNone("22p...");
        isNone("22;;p..");
    }

    private void textAsManySigns() {
        s.of(0, "as many signs as there are PLACES, row by row");
        for (String head : HEADS) {
            String text = filled(head, "p");
            isBoard(text, 1);
            for (int length = 0; length < text.length(); length++) {
                fault(text.substring(0, length), length);
                isNone(text.substring(0, length));
            }
            for (String more : new String[] {".", "#", "p", "2", " ", "..", "..."}) {
                fault(text + more, text.length());
                isNone(text + more);
            }
        }
        PegField x = Due.on("32;p#.#x.");
        int[] holes = {1, 0, 1, 0, 1, 1};
        int[] pegs = {0, PegField.NONE, PegField.NONE, PegField.NONE, 1, PegField.NONE};
        for (int place = 0; place < 6; place++) {
            s.is("hole " + place, x.place(place, 0), holes[place]);
            s.is("peg in " + place, x.place(place, 1), pegs[place]);
        }
    }

    private void textSigns() {
        s.of(0, "\"#\" (there is no HOLE), \".\" (a HOLE that is empty), or a letter, the KIND of the PEG that is in the HOLE there");
        onlyGoesOnWith("22;", "#.pxsfb");
        onlyGoesOnWith("34;#.pxsfb....", "#.pxsfb");
        isNone("22;pP..");
        isNone("22;p-..");
        PegField x = Due.on("23;#.p###");
        s.is("# is no hole", x.place(0, 0), 0);
        s.is("nobody is in #", x.place(0, 1), PegField.NONE);
        s.is(". is a hole", x.place(1, 0), 1);
        s.is("nobody is in .", x.place(1, 1), PegField.NONE);
        s.is("p is in a hole", x.place(2, 0), 1);
        s.is("p is in it", x.place(2, 1), 0);
        s.is("holes", x.count(2), 2);
    }

    private void textSevenPegs() {
        s.of(0, "seven PEGS at most");
        for (String head : HEADS) {
            for (String kind : new String[] {"p", "x", "s", "f", "b"}) {
                if (places(head) >= 8) {
                    isBoard(filled(head, kind.repeat(7)), 7);
                    isNone(filled(head, kind.repeat(8)));
                    fault(filled(head, kind.repeat(8)), 10);
                } else {
                    isBoard(filled(head, kind.repeat(places(head))), places(head));
                }
            }
        }
        onlyGoesOnWith("34;ppppppp", "#.");
        onlyGoesOnWith("34;p.x#sfbpx", "#.");
        onlyGoesOnWith("34;p.x#sfbp", "#.pxsfb");
        fault("34;pppp#..pppp.", 13);
        isBoard("34;pppp#..ppp..", 7);
        isBoard("43;#####fffffff", 7);
    }

    private void textOnePeg() {
        s.of(0, "one at least.");
        for (String head : HEADS) {
            isNone(filled(head, "."));
            isNone(head + ";" + "#".repeat(places(head)));
            for (int place = 0; place < places(head); place++) {
                isBoard(filled(head, ".".repeat(place) + "s"), 1);
            }
            isBoard(head + ";" + "#".repeat(places(head) - 1) + "f", 1);
        }
    }

    private void calls512() {
        s.of(0, "An object is used for at most 512 calls after it has been made; what later calls answer is free.");
        // The dearest board: seven that go all ways, in 384 courses.
        PegField x = page("34;.bb.bbb..bb.");
        s.is("call 16", x.board(), 7);
        for (int call = 17; call < 510; call += 3) {
            s.is("call " + call, x.be(6, 0), 4);
            s.is("call " + (call + 1), x.be(6, 4), 0);
            s.is("call " + (call + 2), x.courses(2), 384);
        }
        s.is("call 512 at last", x.board(), PegField.STATE);
        PegField full = new PegField();
        for (int call = 1; call <= 512; call++) {
            s.is("letter, call " + call, full.letter('2'), call <= 18 ? call : PegField.FULL);
        }
    }

    private void constants() {
        s.of(0, "UNKNOWN (a number names nothing), OUTSIDE (it is not as told), STATE (as told), FULL");
        s.is("NONE", PegField.NONE, -1);
        s.is("UNKNOWN", PegField.UNKNOWN, -101);
        s.is("OUTSIDE", PegField.OUTSIDE, -102);
        s.is("STATE", PegField.STATE, -103);
        s.is("FULL", PegField.FULL, -104);
    }

    // ---- a new object, the page, reading it

    private void p01NoBoard() {
        s.of(1, "No BOARD.");
        PegField x = new PegField();
        for (int what = 0; what <= 10; what++) {
            s.is("count " + what, x.count(what), 0);
        }
        s.is("fault", x.fault(), 0);
        s.is("blank", x.blank(), 0);
        s.is("forget", x.forget(), 0);
        s.refuses(x, "board", PegField.STATE, x::board);
        for (int number : new int[] {0, 1, 6, 7, 11, 12, -1, Integer.MIN_VALUE, Integer.MAX_VALUE}) {
            s.refuses(x, "peg " + number, PegField.UNKNOWN, () -> x.peg(number, 0));
            s.refuses(x, "as " + number, PegField.UNKNOWN, () -> x.as(number, 0));
            s.refuses(x, "place " + number, PegField.UNKNOWN, () -> x.place(number, 0));
            s.refuses(x, "jump " + number, PegField.UNKNOWN, () -> x.jump(number, number));
            s.refuses(x, "put " + number, PegField.UNKNOWN, () -> x.put(number, number));
            s.refuses(x, "plug " + number, PegField.UNKNOWN, () -> x.plug(number));
            s.refuses(x, "bore " + number, PegField.UNKNOWN, () -> x.bore(number));
            s.refuses(x, "be " + number, PegField.UNKNOWN, () -> x.be(number, 0));
            s.refuses(x, "see " + number, PegField.UNKNOWN, () -> x.see(number, 0, true));
        }
        s.refuses(x, "courses", PegField.STATE, () -> x.courses(0));
        s.refuses(x, "wins", PegField.STATE, () -> x.wins(0));
        s.refuses(x, "add", PegField.STATE, x::add);
        s.refuses(x, "mean", PegField.STATE, x::mean);
        s.refuses(x, "runs", PegField.STATE, () -> x.runs(1, 0, 0));
        s.refuses(x, "image", PegField.STATE, x::image);
        s.refuses(x, "restore", PegField.STATE, x::restore);
        s.is("letter", x.letter('2'), 1);
    }

    private void p02Letter() {
        s.of(2, "A letter comes behind THE PAGE, told by its code: how many THE PAGE has.");
        PegField x = new PegField();
        String text = "34;.bb.bbb..bb.";
        for (int size = 1; size <= text.length(); size++) {
            s.is("letter " + size, x.letter(text.charAt(size - 1)), size);
            s.is("letters, told by count", x.count(8), size);
        }
        s.is("it is read in that order", x.board(), 7);
        s.is("the page starts anew", x.letter('4'), 1);
    }

    private void p02CodeIsOutside() {
        s.of(2, "OUTSIDE: code (32 to 126)");
        PegField x = page("2");
        for (int code = -40; code <= 31; code++) {
            int tried = code;
            s.refuses(x, "letter " + code, PegField.OUTSIDE, () -> x.letter(tried));
        }
        PegField y = page("2");
        for (int code = 127; code <= 260; code++) {
            int tried = code;
            s.refuses(y, "letter " + code, PegField.OUTSIDE, () -> y.letter(tried));
        }
        // Codes of which the last byte, or the last two, would be a letter.
        for (int code : new int[] {Integer.MIN_VALUE, Integer.MIN_VALUE + 50, Integer.MAX_VALUE, 256 + 50, 65536 + 50, -206}) {
            s.refuses(y, "letter " + code, PegField.OUTSIDE, () -> y.letter(code));
        }
        for (int code = 32; code <= 126; code++) {
            s.is("letter " + code, new PegField().letter(code), 1);
        }
    }

    private void p02Above18() {
        s.of(2, "FULL: above 18.");
        PegField x = new PegField();
        for (int size = 1; size <= 18; size++) {
            s.is("letter " + size, x.letter(32 + size), size);
        }
        s.refuses(x, "letter 19", PegField.FULL, () -> x.letter('2'));
        s.refuses(x, "letter 19 again", PegField.FULL, () -> x.letter(126));
        s.refuses(x, "letter 19, and its code is outside", PegField.OUTSIDE, () -> x.letter(127));
        s.refuses(x, "letter 19, and its code is below", PegField.OUTSIDE, () -> x.letter(31));
        s.is("blank", x.blank(), 18);
        s.is("letter 1", x.letter('2'), 1);
    }

    private void p03Blank() {
        s.of(3, "THE PAGE is empty: how many letters it had.");
        PegField x = new PegField();
        s.is("none", x.blank(), 0);
        x.letter('q');
        s.is("one", x.blank(), 1);
        s.is("none again", x.blank(), 0);
        Due.type(x, "22;p....".repeat(2) + "22");
        s.is("a full page", x.blank(), 18);
        s.is("letters then", x.count(8), 0);
        s.is("fault then", x.fault(), 0);
        s.is("nothing is read of it", x.board(), PegField.STATE);
        Due.type(x, "22;p...");
        x.board();
        x.letter('2');
        s.is("behind a board", x.blank(), 1);
        s.is("the board stays", x.count(3), 1);
    }

    private void p04FirstFault() {
        s.of(4, "The place (from 0) of the first letter of THE PAGE that no BOARD has there, behind those ahead of it");
        fault("q", 0);
        fault("q2;p...", 0);
        fault("2q;p...", 1);
        fault("22qp...", 2);
        fault("22;q...", 3);
        fault("22;p..q", 6);
        fault("22;pqqq", 4);
        fault("qqqqqqqqqqqqqqqqqq", 0);
        fault("34;ppppppp....q", 14);
        fault("34;ppppppp....p", 14);
        fault("34;ppppppp.....q", 15);
        fault("22;p....22;p...", 7);
        // What stands ahead says what may stand there: 4 behind 3, not behind 4.
        fault("34", 2);
        fault("44", 1);
        fault("33;pppppppp", 10);
        fault("33;pp.ppppp", 11);
        fault("33;pp.pppppp", 11);
    }

    private void p04NeedNotGoOn() {
        s.of(4, "(it need not be seen whether one can go on from it)");
        for (String head : HEADS) {
            String empty = filled(head, "");
            fault(empty, empty.length());
            fault(empty.substring(0, empty.length() - 1), empty.length() - 1);
            fault(empty.replace('.', '#'), empty.length());
            fault(empty + "p", empty.length());
            s.is("and yet it is no board: " + empty, page(empty).board(), PegField.STATE);
        }
    }

    private void p04NoFault() {
        s.of(4, "how many letters it has, if there is none.");
        fault("", 0);
        fault("2", 1);
        fault("22", 2);
        fault("22;", 3);
        fault("22;b", 4);
        fault("34;ppppppp.....", 15);
        PegField x = page("22;p");
        s.is("fault", x.fault(), 4);
        s.is("fault, once more", x.fault(), 4);
        s.is("the page stays", x.count(8), 4);
        Due.type(x, "...");
        x.board();
        s.is("fault of the page that is empty then", x.fault(), 0);
    }

    private void p05AnotherIsGone() {
        s.of(5, "THE PAGE is read as THE BOARD (another one is gone, with all that was)");
        PegField x = Due.on("34;fp.bp....bbp");
        x.jump(0, 2);
        x.see(6, 2, false);
        x.add();
        x.image();
        x.plug(5);
        Due.type(x, "22;#.px");
        s.is("a smaller one", x.board(), 2);
        int[] counts = {2, 2, 3, 2, 2, 0, 0, 0, 0, 2, 1};
        for (int what = 0; what <= 10; what++) {
            s.is("count " + what, x.count(what), counts[what]);
        }
        s.is("peg 0", x.peg(0, 1), 2);
        s.is("kind of peg 1", x.peg(1, 0), 1);
        s.is("nobody in 1", x.place(1, 1), PegField.NONE);
        s.is("no peg 2", x.peg(2, 0), PegField.UNKNOWN);
        s.is("no place 4", x.place(4, 0), PegField.UNKNOWN);
        s.is("no image", x.restore(), PegField.STATE);
        Due.type(x, "22;#.px");
        s.is("the same one", x.board(), 2);
        Due.type(x, "43;....pppbbbp.");
        s.is("a greater one", x.board(), 7);
        s.is("nothing is seen of peg 6", x.peg(6, 3), 31);
        s.is("boards", x.count(9), 4);
    }

    private void p05HowManyPegs() {
        s.of(5, "how many PEGS");
        for (int pegs = 1; pegs <= 7; pegs++) {
            PegField x = page(filled("24", "b".repeat(pegs)));
            s.is("board of " + pegs, x.board(), pegs);
            s.is("pegs of " + pegs, x.count(3), pegs);
            s.is("on the board", x.count(4), pegs);
            s.is("no peg " + pegs, x.peg(pegs, 0), PegField.UNKNOWN);
            s.is("the last", x.peg(pegs - 1, 1), pegs - 1);
        }
    }

    private void p05PageIsEmptyThen() {
        s.of(5, "THE PAGE is empty then.");
        PegField x = Due.on("34;ppppppp.....");
        s.is("letters", x.count(8), 0);
        s.is("blank", x.blank(), 0);
        s.refuses(x, "board of the empty page", PegField.STATE, x::board);
        s.is("the next letter", x.letter('2'), 1);
    }

    private void p05ItIsNone() {
        s.of(5, "STATE: it is none.");
        PegField x = Due.on("24;.pp.####");
        x.jump(0, 3);
        x.see(1, 1, true);
        x.image();
        x.put(1, 1);
        String[] none = {"", "2", "22", "22;", "22;p..", "22;p....", "22;....", "22;####", "22;ppp.p",
            "33;pppppppp.", "33;pppppppp", "12;p.", "44;p...........", "22:p...", "22;ppxP", "34;ppppppp........", "qqqq"};
        for (String text : none) {
            x.blank();
            Due.type(x, text);
            s.refuses(x, "board of " + text, PegField.STATE, x::board);
            s.is("the page stays: " + text, x.count(8), text.length());
            s.is("boards read", x.count(9), 1);
        }
        s.is("the image stays", x.restore(), 1);
        s.is("as it was", x.count(4), 1);
        for (int number : FAR) {
            s.is("no peg " + number, x.peg(number, 0), PegField.UNKNOWN);
        }
    }
}
