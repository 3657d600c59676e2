/** Section 4 and promises 27 to 31 at their edges: kinds, images. */
public final class EdgeKindsTest {
    private static final int NONE = LastWord.NONE;
    private static final int BAD = LastWord.BAD;
    private static final int STATE = LastWord.STATE;
    private static final int NO = LastWord.NO;
    private static final String QUIET = "w1 5 0 0 0 0 0;";

    public static void main(String[] args) {
        traceOfEachKind();
        traceOfWhatIsRefused();
        traceGoesOn();
        rateOfNothing();
        rateOfSixOwed();
        rateOfSixLate();
        rateOfSixLastWords();
        rateOfTheSixth();
        imageNotKept();
        imageOfNothing();
        imageOfSix();
        imagesApart();
        imageKeptAgain();
        imageAndUndo();
        imageKeepsNothingElse();
        imagesGone();
        counts();
        Check.end();
    }

    // "(numbers in brackets are added to THE TRACE, 0 at first, as often as rate() asks that body: each once)"

    private static void traceOfEachKind() {
        long[] added = {1, 10 + 1, 100 + 1, 1000 + 10 + 1, 10000 + 100 + 1, 100000 + 1};
        for (int kind = 0; kind < 6; kind++) {
            LastWord x = Check.told(QUIET);
            Check.due("31 THE TRACE at first", 0, x.trace());
            x.rate(kind, 0);
            Check.due("31 THE TRACE of KIND " + kind, added[kind], x.trace());
            x.rate(kind, 0);
            Check.due("31 THE TRACE of KIND " + kind + " twice", 2 * added[kind], x.trace());
        }
    }

    // "RATE. NO: BAD.", "`NO = -1000000`: What none is, where a number may be below 0."

    private static void traceOfWhatIsRefused() {
        LastWord x = Check.told(QUIET);
        int[] kinds = {-1, 6, Integer.MIN_VALUE, Integer.MAX_VALUE};
        for (int kind : kinds) {
            Check.due("27 rate(" + kind + ", 0)", NO, x.rate(kind, 0));
            Check.due("27 rate(" + kind + ", 1), both wrong", NO, x.rate(kind, 1));
        }
        for (int kind = 0; kind < 6; kind++) {
            Check.due("27 rate(" + kind + ", 1)", NO, x.rate(kind, 1));
            Check.due("27 rate(" + kind + ", -1)", NO, x.rate(kind, -1));
            Check.due("27 rate(" + kind + ", least)", NO, x.rate(kind, Integer.MIN_VALUE));
            Check.due("27 rate(" + kind + ", greatest)", NO, x.rate(kind, Integer.MAX_VALUE));
        }
        Check.due("31 nothing was asked", 0, x.trace());
        Check.due("NO", -1000000, NO);
    }

    private static void traceGoesOn() {
        LastWord x = Check.told(QUIET);
        for (int i = 1; i <= 400; i++) {
            x.rate(5, 0);
        }
        Check.due("31 THE TRACE", 40000400L, x.trace());
        x.day();
        x.undo();
        x.keep(0);
        x.back(0);
        x.forget();
        x.clear();
        Check.due("31 nothing else changes it", 40000400L, x.trace());
    }

    // "WRITER his PEN (1). COLONEL up, and how much he OWES (10). DUKE up less how often he was LATE (100). VICAR twice
    // up (1000). POET up, and his number (10000). HEIR up, and LAST WORDS he has (100000)."

    private static void rates(String why, LastWord x, int w, int... want) {
        for (int kind = 0; kind < 6; kind++) {
            Check.due("27 rate(" + kind + ", " + w + ") " + why, want[kind], x.rate(kind, w));
        }
    }

    private static void rateOfNothing() {
        LastWord x = Check.told("w9 5 0 0 0 0 0;w1 5 0 0 0 0 0;");
        rates("of nothing", x, 0, 9, 9, 9, 18, 9, 9);
        rates("of nothing", x, 1, 1, 1, 1, 2, 2, 1);
        x.lays(1);
        rates("of one who LAID down", x, 1, 1, 1, 1, 2, 2, 1);
    }

    private static LastWord six(String text, int w, int s) {
        LastWord x = Check.told(text);
        for (int q = 0; q < 6; q++) {
            x.writes(w, s);
        }
        return x;
    }

    private static void rateOfSixOwed() {
        LastWord x = six(QUIET + "w9 5 9 0 0 0 0;", 0, 0);
        rates("who OWES six", x, 1, 9, 15, 9, 30, 10, 9);
        rates("who OWES none", x, 0, 1, 1, 1, 2, 1, 1);
    }

    private static void rateOfSixLate() {
        LastWord x = six("t1;" + QUIET + "w2 5 9 0 0 0 0;", 0, 0);
        x.day();
        rates("LATE by six, below 0", x, 1, 2, 8, -4, 16, -3, 2);
        LastWord y = six("t3;" + QUIET + "w3 5 9 0 0 0 0;", 0, 0);
        Check.days(y, 3);
        rates("LATE by five", y, 1, 3, 8, -2, 16, -1, 4);
    }

    private static void rateOfSixLastWords() {
        LastWord x = six("w3 5 9 9 9 9 9;", 0, 2);
        rates("with six LAST WORDS", x, 0, 3, 3, 3, 6, 3, 9);
    }

    private static void rateOfTheSixth() {
        LastWord x = Check.told(QUIET.repeat(5) + "w4 5 9 0 0 0 0;");
        x.writes(0, 0);
        x.writes(5, 0);
        rates("of the sixth", x, 5, 4, 5, 4, 10, 9, 5);
        Check.due("27 a seventh", NO, x.rate(0, 6));
    }

    // "BAD; STATE: none was kept."

    private static void imageNotKept() {
        LastWord x = Check.told(QUIET);
        Check.due("29 back(0)", STATE, x.back(0));
        Check.due("29 back(1)", STATE, x.back(1));
        Check.due("29 BAD ahead of STATE", BAD, x.back(2));
        Check.due("29 BAD ahead of STATE", BAD, x.back(-1));
        Check.due("28 keep(2)", BAD, x.keep(2));
        Check.due("28 keep(-1)", BAD, x.keep(-1));
        Check.due("29 what was refused is not kept", STATE, x.back(0));
        Check.due("29 what was refused is not kept", STATE, x.back(1));
        x.keep(1);
        Check.due("29 back(0) of none", STATE, x.back(0));
        Check.due("29 back(1)", 0, x.back(1));
        Check.due("29 back(2)", BAD, x.back(2));
    }

    private static void imageOfNothing() {
        LastWord x = new LastWord();
        Check.due("28 keep(0) of a new object", 0, x.keep(0));
        Check.days(x, 3);
        Check.due("28 keep(1)", 3, x.keep(1));
        Check.due("29 back(0)", 0, x.back(0));
        Check.due("8 THE DAY", 0, x.now(0));
        Check.due("29 back(1)", 3, x.back(1));
        Check.due("8 THE DAY", 3, x.now(0));
    }

    // "IMAGES 0, 1 keep NOW (THE DAY, QUARRELS, who LAID down, LETTERS, how often each was LATE)"

    private static void imageOfSix() {
        LastWord x = Check.told("t1;" + QUIET.repeat(5) + "w2 5 9 0 0 0 0;");
        x.keep(0);
        for (int q = 0; q < 6; q++) {
            x.writes(q % 5, 0);
        }
        x.day();
        x.lays(4);
        Check.due("28 keep(1)", 1, x.keep(1));
        Check.due("29 back(0)", 0, x.back(0));
        Check.due("8 THE DAY", 0, x.now(0));
        Check.due("8 no QUARRELS", 0, x.now(1));
        Check.due("8 no LETTERS", 0, x.now(3));
        Check.due("6 no QUARRELS", BAD, x.quarrel(0, 0));
        Check.due("5 LAID", 0, x.writer(4, 7));
        Check.due("5 OWES", 0, x.writer(5, 8));
        Check.due("5 LATE", 0, x.writer(5, 9));
        Check.due("9 the first again", 0, x.writes(3, 4));
        Check.due("29 back(1)", 1, x.back(1));
        Check.due("8 six QUARRELS", 6, x.now(1));
        Check.due("8 LETTERS", 6, x.now(3));
        Check.due("5 LAID", 1, x.writer(4, 7));
        Check.due("5 OWES", 6, x.writer(5, 8));
        Check.due("5 LATE", 6, x.writer(5, 9));
        for (int q = 0; q < 6; q++) {
            int[] want = {q % 5, 0, 0, 5, q == 0 ? 1 : 2, 1};
            for (int what = 0; what < 6; what++) {
                Check.due("6 quarrel(" + q + ", " + what + ")", want[what], x.quarrel(q, what));
            }
        }
        Check.due("9 a seventh", LastWord.FULL, x.writes(0, 0));
    }

    private static void imagesApart() {
        LastWord x = Check.told(QUIET);
        x.keep(0);
        x.day();
        x.keep(1);
        x.day();
        for (int i = 0; i < 2; i++) {
            Check.due("29 back(0)", 0, x.back(0));
            x.writes(0, 0);
            Check.due("29 back(1)", 1, x.back(1));
            Check.due("8 no QUARRELS", 0, x.now(1));
            x.lays(0);
        }
        Check.due("29 back(0) is as it was kept", 0, x.back(0));
        Check.due("8 no QUARRELS", 0, x.now(1));
        Check.due("5 LAID", 0, x.writer(0, 7));
    }

    private static void imageKeptAgain() {
        LastWord x = Check.told(QUIET);
        x.writes(0, 0);
        x.keep(0);
        x.day();
        Check.due("28 kept again", 1, x.keep(0));
        x.undo();
        Check.due("8 THE DAY", 0, x.now(0));
        Check.due("29 the later one", 1, x.back(0));
        Check.due("6 its QUARREL", 0, x.quarrel(0, 0));
        Check.due("28 kept while it is so", 1, x.keep(1));
        Check.due("29 back(1)", 1, x.back(1));
    }

    // "nothing can be UNDONE behind back()"

    private static void imageAndUndo() {
        LastWord x = Check.told(QUIET);
        Check.days(x, 11);
        x.keep(0);
        Check.due("8 keep() leaves what may be UNDONE", 10, x.now(4));
        x.back(1);
        Check.due("8 what is refused too", 10, x.now(4));
        x.back(0);
        Check.due("8 nothing behind back()", 0, x.now(4));
        Check.due("12 undo()", STATE, x.undo());
        Check.due("8 THE DAY", 11, x.now(0));
        Check.days(x, 2);
        Check.due("8 what was done then", 2, x.now(4));
        Check.due("12 undo()", 1, x.undo());
        Check.due("12 undo()", 0, x.undo());
        Check.due("12 undo() not beyond back()", STATE, x.undo());
        Check.due("8 THE DAY", 11, x.now(0));
    }

    // "nothing else"

    private static void imageKeepsNothingElse() {
        LastWord x = Check.told("t7;" + QUIET + QUIET);
        x.found(0, 0, 1);
        Check.type(x, "t3;");
        x.keep(0);
        x.found(0, 1, 1);
        x.rate(0, 0);
        x.type('w');
        x.keep(1);
        x.back(0);
        Check.due("30 FOUND stays", 2, x.count(2));
        Check.due("30 THE TEXT stays", 4, x.count(3));
        Check.due("31 THE TRACE stays", 1, x.trace());
        x.forget();
        x.clear();
        x.back(1);
        Check.due("30 nothing FOUND comes back", 0, x.count(2));
        Check.due("30 no TEXT comes back", 0, x.count(3));
        Check.due("30 TERM", 7, x.count(1));
        Check.due("30 WRITERS", 2, x.count(0));
    }

    private static void imagesGone() {
        LastWord x = Check.told(QUIET);
        x.keep(0);
        x.keep(1);
        x.type('x');
        x.paper();
        Check.due("29 a text with a fault leaves them", 0, x.back(0));
        x.clear();
        x.paper();
        Check.due("29 back(0)", STATE, x.back(0));
        Check.due("29 back(1)", STATE, x.back(1));
        x.keep(1);
        Check.due("29 back(0)", STATE, x.back(0));
        Check.due("29 back(1) kept anew", 0, x.back(1));
    }

    // "0 WRITERS, 1 TERM, 2 FOUND, 3 letters of THE TEXT. BAD."

    private static void counts() {
        int[] first = {0, 9, 0, 0};
        int[] most = {6, 20, 5, 200};
        LastWord x = new LastWord();
        for (int what = 0; what < 4; what++) {
            Check.due("30 count(" + what + ") at first", first[what], x.count(what));
        }
        Check.type(x, "t20;" + QUIET.repeat(6));
        x.paper();
        for (int i = 0; i < 6; i++) {
            x.found(0, 0, -1);
        }
        Check.type(x, " ".repeat(201));
        for (int what = 0; what < 4; what++) {
            Check.due("30 count(" + what + ") at most", most[what], x.count(what));
        }
        Check.due("30 count(4)", BAD, x.count(4));
        Check.due("30 count(-1)", BAD, x.count(-1));
        Check.due("25 none is below 0", NONE, x.most());
    }
}
