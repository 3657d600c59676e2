/** Promises 27 to 31: kinds, images. */
public final class KindsTest {
    private static final int BAD = LastWord.BAD;
    private static final int STATE = LastWord.STATE;
    private static final int NO = LastWord.NO;

    public static void main(String[] args) {
        rateAndTrace();
        rateBelowZero();
        keepAndBack();
        imageStays();
        imageKeepsNothingElse();
        count();
        Check.end();
    }

    /** Writer 1 (PEN 4) owes 2, was late once, has 1 last word. */
    private static LastWord rated() {
        LastWord x = Check.told("t3;w2 5 0 0 0 0 0;w4 5 9 0 0 0 0;");
        x.writes(0, 0);
        Check.days(x, 4);
        x.writes(0, 0);
        x.writes(0, 0);
        x.writes(0, 3);
        return x;
    }

    private static void rateAndTrace() {
        LastWord x = rated();
        int[] rates = {4, 6, 3, 12, 4, 5};
        long[] traces = {1, 12, 113, 1124, 11225, 111226};
        for (int kind = 0; kind < 6; kind++) {
            Check.due("27 rate(" + kind + ", 1)", rates[kind], x.rate(kind, 1));
            Check.due("31 trace() behind it", traces[kind], x.trace());
        }
        Check.due("27 rate(5, 0)", 3, x.rate(5, 0));
        Check.due("27 rate(6, 0)", NO, x.rate(6, 0));
        Check.due("27 rate(-1, 0)", NO, x.rate(-1, 0));
        Check.due("27 rate(0, 2)", NO, x.rate(0, 2));
        Check.due("27 rate(0, -1)", NO, x.rate(0, -1));
        Check.due("31 trace() of what was refused", 211227, x.trace());
        x.undo();
        x.clear();
        Check.due("31 trace() is not UNDONE", 211227, x.trace());
    }

    private static void rateBelowZero() {
        LastWord x = Check.told("t1;w2 5 0 0 0 0 0;w2 5 9 0 0 0 0;");
        for (int i = 0; i < 4; i++) {
            x.writes(0, 0);
        }
        x.day();
        Check.due("27 DUKE", -2, x.rate(2, 1));
        Check.due("27 POET", -1, x.rate(4, 1));
        Check.due("27 VICAR", 12, x.rate(3, 1));
    }

    private static void keepAndBack() {
        LastWord x = rated();
        Check.due("28 keep(2)", BAD, x.keep(2));
        Check.due("28 keep(-1)", BAD, x.keep(-1));
        Check.due("29 back(2)", BAD, x.back(2));
        Check.due("29 back(-1)", BAD, x.back(-1));
        Check.due("29 back(0) of none", STATE, x.back(0));
        Check.due("29 what may be UNDONE stays", 8, x.now(4));
        Check.due("28 keep(0)", 4, x.keep(0));
        Check.due("29 back(1) of none", STATE, x.back(1));
        Check.due("28 what may be UNDONE stays", 8, x.now(4));
        x.lays(1);
        Check.days(x, 3);
        x.writes(0, 0);
        Check.due("28 keep(1)", 7, x.keep(1));
        Check.due("29 back(0)", 4, x.back(0));
        Check.due("29 THE DAY", 4, x.now(0));
        Check.due("29 QUARRELS", 4, x.now(1));
        Check.due("29 CLOSED", 9, x.now(2));
        Check.due("29 LETTERS", 5, x.now(3));
        Check.due("29 nothing can be UNDONE", 0, x.now(4));
        Check.due("29 undo()", STATE, x.undo());
        Check.due("29 LAID", 0, x.writer(1, 7));
        Check.due("29 WORK", 4, x.quarrel(1, 4));
        Check.due("29 LATE", 1, x.writer(1, 9));
        Check.due("29 back(1)", 7, x.back(1));
        Check.due("29 QUARRELS", 5, x.now(1));
        Check.due("29 LAID", 1, x.writer(1, 7));
    }

    private static void imageStays() {
        LastWord x = Check.told("t1;w2 5 9 0 0 0 0;w2 5 9 0 0 0 0;");
        x.writes(0, 0);
        x.keep(0);
        for (int i = 0; i < 3; i++) {
            Check.days(x, 2 + i);
            Check.due("29 back(0) again", 0, x.back(0));
            Check.due("29 WORK as kept", 2, x.quarrel(0, 4));
            Check.due("29 LATE as kept", 0, x.writer(1, 9));
        }
        x.day();
        Check.due("28 kept anew", 1, x.keep(0));
        x.undo();
        Check.due("29 as kept anew", 1, x.back(0));
        Check.due("29 day() may be UNDONE again", 1, x.day());
        Check.due("29 undo()", 0, x.undo());
        Check.due("29 THE DAY", 1, x.now(0));
    }

    private static void imageKeepsNothingElse() {
        LastWord x = Check.told("w2 5 9 0 0 0 0;w2 5 9 0 0 0 0;");
        x.keep(1);
        x.found(0, 0, 1);
        x.rate(0, 0);
        Check.type(x, "t5;");
        x.back(1);
        Check.due("29 FOUND", 1, x.count(2));
        Check.due("29 the text", 3, x.count(3));
        Check.due("29 THE TRACE", 1, x.trace());
    }

    private static void count() {
        LastWord x = Check.told("t12;w2 5 9 0 0 0 0;w2 5 9 0 0 0 0;w2 5 9 0 0 0 0;");
        x.found(0, 0, 1);
        x.found(0, 0, 1);
        Check.type(x, "abcd");
        Check.due("30 WRITERS", 3, x.count(0));
        Check.due("30 TERM", 12, x.count(1));
        Check.due("30 FOUND", 2, x.count(2));
        Check.due("30 letters", 4, x.count(3));
        Check.due("30 count(4)", BAD, x.count(4));
        Check.due("30 count(-1)", BAD, x.count(-1));
    }
}
