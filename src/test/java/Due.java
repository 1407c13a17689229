/** Counts the answers that are due and prints those that are not as they should be. */
final class Due {
    private int asDue;
    private int wrong;

    void is(String call, long got, long want) {
        if (got == want) {
            asDue++;
        } else {
            wrong++;
            System.out.println(call + " answered " + got + ", due is " + want);
        }
    }

    /** Ends the program with exit code 1 if an answer was wrong. */
    void end() {
        System.out.println(asDue + " answers as due, " + wrong + " not");
        if (wrong > 0 || asDue == 0) {
            System.exit(1);
        }
    }

    /** Puts a text behind the page, letter by letter. */
    static void type(PegField field, String text) {
        for (int index = 0; index < text.length(); index++) {
            field.letter(text.charAt(index));
        }
    }

    /** A new object that has read the board. */
    static PegField on(String board) {
        PegField field = new PegField();
        type(field, board);
        if (field.board() < 1) {
            throw new IllegalArgumentException("no board: " + board);
        }
        return field;
    }
}
