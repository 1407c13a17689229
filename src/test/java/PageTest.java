/** Promises 1 to 5: a new object, letter, blank, fault, board. */
public final class PageTest {
    private static final Due due = new Due();

    public static void main(String[] args) {
        newObject();
        letters();
        blank();
        faultInTheHead();
        faultAmongThePlaces();
        board();
        boardRefused();
        boardReadAgain();
        due.end();
    }

    private static void newObject() {
        PegField x = new PegField();
        for (int what = 0; what <= 10; what++) {
            due.is("new count " + what, x.count(what), 0);
        }
        due.is("new peg", x.peg(0, 0), PegField.UNKNOWN);
        due.is("new place", x.place(0, 0), PegField.UNKNOWN);
        due.is("new courses", x.courses(0), PegField.STATE);
        due.is("new restore", x.restore(), PegField.STATE);
        due.is("new fault", x.fault(), 0);
        due.is("new blank", x.blank(), 0);
        due.is("new forget", x.forget(), 0);
        due.is("NONE", PegField.NONE, -1);
        due.is("UNKNOWN", PegField.UNKNOWN, -101);
        due.is("OUTSIDE", PegField.OUTSIDE, -102);
        due.is("STATE", PegField.STATE, -103);
        due.is("FULL", PegField.FULL, -104);
    }

    private static void letters() {
        PegField x = new PegField();
        int[] outside = {31, 127, 0, -1, Integer.MIN_VALUE, Integer.MAX_VALUE};
        for (int code : outside) {
            due.is("letter " + code, x.letter(code), PegField.OUTSIDE);
        }
        due.is("no letter came", x.count(8), 0);
        due.is("letter 32", x.letter(32), 1);
        due.is("letter 126", x.letter(126), 2);
        for (int size = 3; size <= 18; size++) {
            due.is("letter at " + size, x.letter('2'), size);
        }
        due.is("letter 19", x.letter('2'), PegField.FULL);
        due.is("letter 19, outside", x.letter(31), PegField.OUTSIDE);
        due.is("letters", x.count(8), 18);
    }

    private static void blank() {
        PegField x = new PegField();
        Due.type(x, "22;p");
        due.is("blank", x.blank(), 4);
        due.is("blank again", x.blank(), 0);
        due.is("letters after blank", x.count(8), 0);
        due.is("letter after blank", x.letter('3'), 1);
        due.is("fault after blank", x.fault(), 1);
    }

    private static void fault(String page, int want) {
        PegField x = new PegField();
        Due.type(x, page);
        due.is("fault of " + page, x.fault(), want);
        due.is("the page stays: " + page, x.count(8), page.length());
    }

    private static void faultInTheHead() {
        fault("", 0);
        fault("1", 0);
        fault("2", 1);
        fault("4", 1);
        fault("5", 0);
        fault(";", 0);
        fault("p", 0);
        fault("21", 1);
        fault("22", 2);
        fault("25", 1);
        fault("2;", 1);
        fault("34", 2);
        fault("43", 2);
        fault("44", 1);
        fault("44;", 1);
        fault("22:", 2);
        fault("22;", 3);
        fault("222", 2);
        fault("22p", 2);
        fault("1p.", 0);
    }

    private static void faultAmongThePlaces() {
        fault("22;p.#.", 7);
        fault("22;p.#..", 7);
        fault("22;p.#.qq", 7);
        fault("22;xsfb", 7);
        fault("22;pP", 4);
        fault("22;p ", 4);
        fault("22;2", 3);
        fault("22;;", 3);
        fault("22;....", 7);
        fault("22;####", 7);
        fault("22;....p", 7);
        fault("33;ppppppp..", 12);
        fault("33;pppppppp.", 10);
        fault("33;.xxsfbp#p", 12);
        fault("33;.xxsfbppq", 11);
        fault("34;bpx.pf.bp.s.", 13);
        fault("34;bpx.pf.bp.#.", 15);
        fault("34;bpx.pf.bp.#...", 15);
        fault("43;...........p", 15);
        fault("24;.......p", 11);
        fault("24;.......pp", 11);
    }

    private static void board() {
        PegField x = new PegField();
        Due.type(x, "24;p.#xsfb.");
        due.is("board", x.board(), 5);
        due.is("page after board", x.count(8), 0);
        due.is("rows", x.count(0), 2);
        due.is("columns", x.count(1), 4);
        due.is("holes", x.count(2), 7);
        due.is("boards", x.count(9), 1);
        int[] homes = {0, 3, 4, 5, 6};
        for (int peg = 0; peg < 5; peg++) {
            due.is("kind of " + peg, x.peg(peg, 0), peg);
            due.is("place of " + peg, x.peg(peg, 1), homes[peg]);
        }
        due.is("seven pegs", Due.on("34;ppppppp.....").count(3), 7);
        due.is("one peg", Due.on("42;#######p").count(3), 1);
    }

    private static void refused(String page) {
        PegField x = new PegField();
        Due.type(x, page);
        due.is("board of " + page, x.board(), PegField.STATE);
        due.is("page is kept: " + page, x.count(8), page.length());
        due.is("no board was read: " + page, x.count(9), 0);
        due.is("no board stands: " + page, x.mean(), PegField.STATE);
    }

    private static void boardRefused() {
        refused("");
        refused("22");
        refused("22;");
        refused("22;p..");
        refused("22;p....");
        refused("22;....");
        refused("22;####");
        refused("22;p..q");
        refused("12;p.");
        refused("44;p..............");
        refused("33;pppppppp.");
        refused("25;p.........");
        refused("22:p...");
    }

    private static void boardReadAgain() {
        PegField x = Due.on("24;.pp.####");
        x.jump(0, 3);
        x.see(0, 0, true);
        x.image();
        Due.type(x, "22;qqqq");
        due.is("a board that is none", x.board(), PegField.STATE);
        due.is("the old board stays", x.count(1), 4);
        due.is("jumps stay", x.count(6), 1);
        due.is("seen stays", x.count(7), 1);
        due.is("the image stays", x.restore(), 1);
        x.blank();
        Due.type(x, "32;..s#.x");
        due.is("another board", x.board(), 2);
        due.is("rows", x.count(0), 3);
        due.is("columns", x.count(1), 2);
        due.is("holes", x.count(2), 5);
        due.is("pegs", x.count(3), 2);
        due.is("pegs on the board", x.count(4), 2);
        due.is("jumps are gone", x.count(6), 0);
        due.is("seen is gone", x.count(7), 0);
        due.is("sorts", x.peg(0, 3), 31);
        due.is("boards", x.count(9), 2);
        due.is("peg 0", x.peg(0, 1), 2);
        due.is("the image is gone", x.restore(), PegField.STATE);
        due.is("no peg in 1", x.place(1, 1), PegField.NONE);
        due.is("no place 6", x.place(6, 0), PegField.UNKNOWN);
        due.is("no peg 2", x.peg(2, 0), PegField.UNKNOWN);
    }
}
