/** Long runs of calls, drawn by a seed, and small boards of all sorts: the program and the model must answer alike. */
public final class ModelTest {
    private static final int RUNS = 500;
    private static final int CALLS = 512;
    private static final String SIGNS = "pxsfb";

    private static final Due due = new Due();
    private static long seed;

    public static void main(String[] args) {
        for (int run = 0; run < RUNS; run++) {
            seed = 1000003L * run + 17;
            run(run);
        }
        boards("22", 1);
        boards("23", 5);
        boards("32", 5);
        due.end();
    }

    /** Of all texts of that head that have a board's signs, one out of so many. */
    private static void boards(String head, int outOf) {
        String signs = ".#" + SIGNS;
        int places = (head.charAt(0) - '0') * (head.charAt(1) - '0');
        int texts = 1;
        for (int place = 0; place < places; place++) {
            texts *= signs.length();
        }
        for (int number = 0; number < texts; number += outOf) {
            StringBuilder text = new StringBuilder(head).append(';');
            for (int place = 0, left = number; place < places; place++, left /= signs.length()) {
                text.append(signs.charAt(left % signs.length()));
            }
            board(text.toString(), number);
        }
    }

    private static void board(String text, int by) {
        PegField x = new PegField();
        Model m = new Model();
        Due.type(x, text);
        for (int index = 0; index < text.length(); index++) {
            m.letter(text.charAt(index));
        }
        due.is(text + " fault", x.fault(), m.fault());
        due.is(text + " board", x.board(), m.board());
        due.is(text + " digest", x.digest(), m.digest());
        due.is(text + " add", x.add(), m.add());
        due.is(text + " runs", x.runs(3, by, 2), m.runs(3, by, 2));
        due.is(text + " runs, alone", x.runs(3, by, 1), m.runs(3, by, 1));
    }

    /** From 0 to one less than the bound. */
    private static int draw(int bound) {
        seed = seed * 6364136223846793005L + 1442695040888963407L;
        return (int) ((seed >>> 33) % bound);
    }

    /** Mostly from 0 to one less than the bound, now and then a number far off. */
    private static int about(int bound) {
        int[] off = {-1, bound, bound + 1, Integer.MIN_VALUE, Integer.MAX_VALUE, -bound};
        return draw(24) == 0 ? off[draw(off.length)] : draw(bound);
    }

    /** A board that is rich in jumps, poor in them, or a text that is none. */
    private static String text() {
        String[] heads = {"22", "23", "24", "32", "33", "34", "42", "43", "34", "43", "33", "24"};
        String head = heads[draw(heads.length)];
        int places = (head.charAt(0) - '0') * (head.charAt(1) - '0');
        int pegs = 1 + draw(7);
        int style = draw(4);
        StringBuilder signs = new StringBuilder();
        for (int place = 0; place < places; place++) {
            if (draw(places) < pegs) {
                signs.append(style == 0 ? 'b' : style == 1 && draw(3) > 0 ? 'p' : SIGNS.charAt(draw(5)));
            } else {
                signs.append(draw(7) == 0 ? '#' : '.');
            }
        }
        StringBuilder whole = new StringBuilder(head).append(';').append(signs);
        if (draw(12) == 0) {
            whole.setCharAt(draw(whole.length()), (char) (32 + draw(95)));
        }
        if (draw(25) == 0) {
            whole.setLength(draw(whole.length()));
        }
        return draw(25) == 0 ? whole.append(".p#").substring(0, Math.min(18, whole.length())) : whole.toString();
    }

    private static void run(int run) {
        PegField x = new PegField();
        Model m = new Model();
        int calls = 0;
        while (calls < CALLS) {
            if (calls == 0 && draw(8) > 0 || draw(90) == 0) {
                calls += type(run, x, m);
            } else {
                call(run, x, m, draw(100));
                calls++;
            }
        }
        due.is("run " + run + " digest at the end", x.digest(), m.digest());
    }

    private static int type(int run, PegField x, Model m) {
        String text = text();
        String call = "run " + run + " " + text;
        if (draw(4) > 0) {
            due.is(call + " blank", x.blank(), m.blank());
        }
        for (int index = 0; index < text.length(); index++) {
            due.is(call + " letter", x.letter(text.charAt(index)), m.letter(text.charAt(index)));
        }
        due.is(call + " fault", x.fault(), m.fault());
        due.is(call + " board", x.board(), m.board());
        return text.length() + 3;
    }

    private static void call(int run, PegField x, Model m, int which) {
        int peg = about(7);
        int place = about(12);
        String call = "run " + run + " (" + peg + ", " + place + ") ";
        if (which < 8) {
            leap(call, x, m);
        } else if (which < 14) {
            due.is(call + "jump", x.jump(peg, place), m.jump(peg, place));
        } else if (which < 32) {
            due.is(call + "put", x.put(peg, place), m.put(peg, place));
        } else if (which < 36) {
            due.is(call + "plug", x.plug(place), m.plug(place));
        } else if (which < 42) {
            due.is(call + "bore", x.bore(place), m.bore(place));
        } else if (which < 46) {
            int kind = about(5);
            due.is(call + "be " + kind, x.be(peg, kind), m.be(peg, kind));
        } else if (which < 80) {
            ask(call, x, m, which, peg, place);
        } else {
            tell(call, x, m, which);
        }
    }

    /** A jump that there is, so that the run goes on. */
    private static void leap(String call, PegField x, Model m) {
        for (int tries = 0; tries < 7; tries++) {
            int peg = draw(7);
            int targets = m.peg(peg, 2);
            if (targets > 0) {
                int place = 31 - Integer.numberOfLeadingZeros(targets);
                due.is(call + "jump by " + peg + " to " + place, x.jump(peg, place), m.jump(peg, place));
                return;
            }
        }
        due.is(call + "no jump", x.count(5), m.count(5));
    }

    private static void ask(String call, PegField x, Model m, int which, int peg, int place) {
        int what = about(which < 60 ? 5 : 2);
        if (which < 50) {
            due.is(call + "peg " + what, x.peg(peg, what), m.peg(peg, what));
        } else if (which < 54) {
            due.is(call + "as " + what, x.as(peg, what), m.as(peg, what));
        } else if (which < 60) {
            int asked = about(6);
            due.is(call + "courses " + asked, x.courses(asked), m.courses(asked));
        } else if (which < 64) {
            due.is(call + "place " + what, x.place(place, what), m.place(place, what));
        } else if (which < 68) {
            due.is(call + "wins " + what, x.wins(what), m.wins(what));
        } else if (which < 71) {
            due.is(call + "mean", x.mean(), m.mean());
        } else if (which < 73) {
            due.is(call + "add", x.add(), m.add());
        } else {
            int seen = about(4);
            boolean could = draw(3) > 0;
            due.is(call + "see " + seen + " " + could, x.see(peg, seen, could), m.see(peg, seen, could));
        }
    }

    private static void tell(String call, PegField x, Model m, int which) {
        if (which < 82) {
            due.is(call + "forget", x.forget(), m.forget());
        } else if (which < 86) {
            int times = 1 + about(40);
            int by = draw(3) == 0 ? about(100) : draw(Integer.MAX_VALUE);
            int what = about(3);
            due.is(call + "runs " + times + " " + by + " " + what, x.runs(times, by, what), m.runs(times, by, what));
        } else if (which < 88) {
            due.is(call + "image", x.image(), m.image());
        } else if (which < 91) {
            due.is(call + "restore", x.restore(), m.restore());
        } else if (which < 95) {
            int what = about(11);
            due.is(call + "count " + what, x.count(what), m.count(what));
        } else if (which < 97) {
            int code = 28 + draw(102);
            due.is(call + "letter " + code, x.letter(code), m.letter(code));
        } else if (which < 98) {
            due.is(call + "fault", x.fault(), m.fault());
        } else {
            due.is(call + "digest", x.digest(), m.digest());
        }
    }
}
