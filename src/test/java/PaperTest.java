/** Promises 1 to 8: the paper. */
public final class PaperTest {
    private static final String PLAIN = "w1 5 0 0 0 0 0;";

    public static void main(String[] args) {
        newObject();
        type();
        clear();
        paperItems();
        paperFaults();
        paperAgain();
        paperTellsAnew();
        paperRefusedChangesNothing();
        writer();
        quarrel();
        meant();
        now();
        Check.end();
    }

    private static void newObject() {
        LastWord x = new LastWord();
        Check.due("1 count(0)", 0, x.count(0));
        Check.due("1 count(1)", 9, x.count(1));
        Check.due("1 count(2)", 0, x.count(2));
        Check.due("1 count(3)", 0, x.count(3));
        for (int what = 0; what < 5; what++) {
            Check.due("1 now(" + what + ")", 0, x.now(what));
        }
        Check.due("1 trace()", 0, x.trace());
        Check.due("1 undo()", LastWord.STATE, x.undo());
        Check.due("1 back(0)", LastWord.STATE, x.back(0));
        Check.due("1 back(1)", LastWord.STATE, x.back(1));
        Check.due("1 writer(0, 0)", LastWord.BAD, x.writer(0, 0));
        Check.due("1 quarrel(0, 0)", LastWord.BAD, x.quarrel(0, 0));
        Check.due("1 writes(0, 0)", LastWord.BAD, x.writes(0, 0));
        Check.due("1 lays(0)", LastWord.BAD, x.lays(0));
        Check.due("1 rate(0, 0)", LastWord.NO, x.rate(0, 0));
        Check.due("1 most()", LastWord.NONE, x.most());
        Check.due("1 lateFirst(0)", LastWord.NONE, x.lateFirst(0));
        Check.due("1 day()", 0, x.day());
        Check.due("1 now(0) behind day()", 1, x.now(0));
    }

    private static void type() {
        LastWord x = new LastWord();
        Check.due("2 type(0)", 1, x.type(0));
        Check.due("2 type(255)", 2, x.type(255));
        Check.due("2 type(256)", LastWord.BAD, x.type(256));
        Check.due("2 type(-1)", LastWord.BAD, x.type(-1));
        Check.due("2 type(least)", LastWord.BAD, x.type(Integer.MIN_VALUE));
        Check.due("2 type(greatest)", LastWord.BAD, x.type(Integer.MAX_VALUE));
        for (int many = 3; many <= 200; many++) {
            Check.due("2 type(32)", many, x.type(32));
        }
        Check.due("2 type(32) of a full text", LastWord.FULL, x.type(32));
        Check.due("2 type(256) of a full text", LastWord.BAD, x.type(256));
        Check.due("2 count(3) of a full text", 200, x.count(3));
    }

    private static void clear() {
        LastWord x = new LastWord();
        Check.due("3 clear() of an empty text", 0, x.clear());
        Check.type(x, "t7;");
        Check.due("3 clear()", 3, x.clear());
        Check.due("3 count(3)", 0, x.count(3));
        Check.due("3 paper() behind clear()", 0, x.paper());
        Check.due("3 TERM behind clear()", 9, x.count(1));
    }

    private static void paper(String text, int want) {
        LastWord x = new LastWord();
        Check.type(x, text);
        Check.due("4 paper() of '" + text + "'", want, x.paper());
        Check.due("4 count(3) behind '" + text + "'", want < 0 ? text.length() : 0, x.count(3));
    }

    private static void fault(String text, int place) {
        paper(text, -10 - place);
    }

    private static void paperItems() {
        paper("", 0);
        paper("   ", 0);
        paper("t1;", 1);
        paper("t20;", 1);
        paper(" t 20 ; ", 1);
        paper(PLAIN, 1);
        paper("w9 5 9 9 9 9 9;", 1);
        paper("w1 0 0 0 0 0 0;t3;w1 4 0 0 0 0 0;", 3);
        paper(PLAIN.repeat(6) + "t2;", 7);
        paper("t2;" + PLAIN.repeat(6), 7);
        paper(PLAIN + " ".repeat(185), 1);
        LastWord x = Check.told("t3;w2 4 1 3 5 7 9;w8 5 2 0 4 6 8;");
        int[][] writers = {{2, 4, 1, 3, 5, 7, 9}, {8, 5, 2, 0, 4, 6, 8}};
        for (int w = 0; w < 2; w++) {
            for (int what = 0; what < 7; what++) {
                Check.due("4 writer(" + w + ", " + what + ")", writers[w][what], x.writer(w, what));
            }
        }
        Check.due("4 TERM", 3, x.count(1));
    }

    private static void paperFaults() {
        fault("t0;", 1);
        fault("t21;", 1);
        fault("t05;", 1);
        fault("t00;", 1);
        fault("t999999999999;", 1);
        fault("t 4294967301;", 2);
        fault("t", 1);
        fault("t5", 2);
        fault("t5  ", 4);
        fault("t25", 1);
        fault("t5 6;", 3);
        fault("t5;;", 3);
        fault("t5;t6;", 3);
        fault("t5;w1 5 0 0 0 0 0; t5;", 19);
        fault("5;", 0);
        fault(" ;", 1);
        fault("t;", 1);
        fault("tt", 1);
        fault("tw", 1);
        fault("T5;", 0);
        fault("W", 0);
        fault("t5;x", 3);
        fault("t5x;", 2);
        fault("t-5;", 1);
        fault("t\t5;", 1);
        fault("t5;\n", 3);
        fault("\0", 0);
        fault("t" + (char) 255, 1);
        fault("t0;x", 1);
        fault("x;t0;", 0);
        fault("t5;21", 3);
        fault("w", 1);
        fault("w1 5 0 0 0 0 0", 14);
        fault("w1 5 0 0 0 0 0w", 14);
        fault("w1 5 0 0 0 0;", 12);
        fault("w1 5 0 0 0 0 0 0;", 15);
        fault("w0 5 0 0 0 0 0;", 1);
        fault("w10 5 0 0 0 0 0;", 1);
        fault("w15 0 0 0 0 0;", 1);
        fault("w1 6 0 0 0 0 0;", 3);
        fault("w1 5 10 0 0 0 0;", 5);
        fault("w1 5 0 10 0 0 0;", 7);
        fault("w1 5 0 0 10 0 0;", 9);
        fault("w1 5 0 0 0 10 0;", 11);
        fault("w1 5 0 0 0 0 10;", 13);
        fault("w1 5 0 0 0 0 00;", 13);
        fault("w1 5 0 0 0 0 t;", 13);
        fault(PLAIN.repeat(6) + "w1 5 0 0 0 0 0;", 90);
        fault(PLAIN.repeat(6) + "t4;w", 93);
        fault("t5;" + " ".repeat(196) + "t", 199);
        fault("t5;" + " ".repeat(196) + "w", 200);
    }

    private static void paperAgain() {
        LastWord x = new LastWord();
        Check.type(x, "t19;");
        x.clear();
        Check.type(x, "t1");
        Check.due("4 no letter of an older text counts", -12, x.paper());
        Check.type(x, ";");
        Check.due("4 the rest of it", 1, x.paper());
        Check.due("4 TERM", 1, x.count(1));
        for (int i = 0; i < 3; i++) {
            Check.type(x, "w1 5 0 0 0 0 0;");
            Check.due("4 paper() again", 1, x.paper());
            Check.due("4 TERM as at first", 9, x.count(1));
            Check.due("4 WRITERS of this text alone", 1, x.count(0));
        }
        Check.type(x, "t3;x");
        x.paper();
        x.clear();
        x.paper();
        Check.due("4 TERM not from a text with a fault", 9, x.count(1));
    }

    private static LastWord busy() {
        LastWord x = Check.told("t1;w2 5 9 0 0 0 0;w2 5 9 0 0 0 0;");
        x.writes(0, 0);
        x.day();
        x.lays(0);
        x.found(0, 0, 1);
        x.keep(0);
        x.rate(0, 0);
        return x;
    }

    private static void paperTellsAnew() {
        LastWord x = busy();
        x.undo();
        x.writes(1, 0);
        x.day();
        Check.due("4 LATE before", 1, x.writer(0, 9));
        Check.type(x, "w3 2 0 0 0 0 0;w1 5 0 0 0 0 0;w1 5 0 0 0 0 0;");
        Check.due("4 paper()", 3, x.paper());
        Check.due("4 WRITERS anew", 3, x.count(0));
        Check.due("4 TERM anew", 9, x.count(1));
        Check.due("4 FOUND anew", 0, x.count(2));
        Check.due("4 text anew", 0, x.count(3));
        for (int what = 0; what < 5; what++) {
            Check.due("4 now(" + what + ") anew", 0, x.now(what));
        }
        Check.due("4 PEN anew", 3, x.writer(0, 0));
        Check.due("4 LAID anew", 0, x.writer(0, 7));
        Check.due("4 LATE anew", 0, x.writer(0, 9));
        Check.due("4 LATE anew", 0, x.writer(1, 9));
        Check.due("4 quarrel(0, 0) anew", LastWord.BAD, x.quarrel(0, 0));
        Check.due("4 undo() anew", LastWord.STATE, x.undo());
        Check.due("4 back(0) anew", LastWord.STATE, x.back(0));
        Check.due("4 trace() goes on", 1, x.trace());
        Check.due("4 paper() of nothing", 0, x.paper());
        Check.due("4 WRITERS of nothing", 0, x.count(0));
    }

    private static void paperRefusedChangesNothing() {
        LastWord x = busy();
        Check.type(x, "w3 2 7 7 7 7 7;w1 5 0 0 0 0 0;t4;x");
        Check.due("4 paper() with a fault", -10 - 33, x.paper());
        Check.due("4 WRITERS stay", 2, x.count(0));
        Check.due("4 TERM stays", 1, x.count(1));
        Check.due("4 FOUND stays", 1, x.count(2));
        Check.due("4 the text stays", 34, x.count(3));
        Check.due("4 PEN stays", 2, x.writer(0, 0));
        Check.due("4 NEAR stays", 9, x.writer(0, 2));
        Check.due("4 LATE stays", 1, x.writer(1, 9));
        Check.due("4 THE DAY stays", 1, x.now(0));
        Check.due("4 QUARRELS stay", 1, x.now(1));
        Check.due("4 what may be UNDONE stays", 3, x.now(4));
        Check.due("4 the IMAGE stays", 1, x.back(0));
        Check.due("4 paper() again", -10 - 33, x.paper());
    }

    private static void writer() {
        LastWord x = busy();
        Check.due("5 LAID", 1, x.writer(0, 7));
        Check.due("5 LAID of another", 0, x.writer(1, 7));
        Check.due("5 OWES", 1, x.writer(1, 8));
        Check.due("5 LATE", 1, x.writer(1, 9));
        Check.due("5 LATE of another", 0, x.writer(0, 9));
        Check.due("5 writer(2, 0)", LastWord.BAD, x.writer(2, 0));
        Check.due("5 writer(-1, 0)", LastWord.BAD, x.writer(-1, 0));
        Check.due("5 writer(0, -1)", LastWord.BAD, x.writer(0, -1));
        Check.due("5 writer(0, 10)", LastWord.BAD, x.writer(0, 10));
        Check.due("5 writer(greatest, 0)", LastWord.BAD, x.writer(Integer.MAX_VALUE, 0));
        Check.due("5 writer(0, least)", LastWord.BAD, x.writer(0, Integer.MIN_VALUE));
    }

    private static void quarrel(LastWord x, int q, int... want) {
        for (int what = 0; what < 6; what++) {
            Check.due("6 quarrel(" + q + ", " + what + ")", want[what], x.quarrel(q, what));
        }
    }

    private static void quarrel() {
        LastWord x = Check.told("t2;w3 4 0 9 0 0 0;w1 5 9 8 0 0 0;");
        x.day();
        x.writes(1, 1);
        x.writes(0, 4);
        quarrel(x, 0, 1, 1, 1, 0, 3, 0);
        quarrel(x, 1, 0, 4, 1, LastWord.NONE, 0, 0);
        Check.days(x, 2);
        quarrel(x, 0, 1, 1, 1, 0, 1, 1);
        x.day();
        quarrel(x, 0, 0, 4, 4, LastWord.NONE, 0, 0);
        Check.due("6 quarrel(2, 0)", LastWord.BAD, x.quarrel(2, 0));
        Check.due("6 quarrel(-1, 0)", LastWord.BAD, x.quarrel(-1, 0));
        Check.due("6 quarrel(0, 6)", LastWord.BAD, x.quarrel(0, 6));
        Check.due("6 quarrel(0, -1)", LastWord.BAD, x.quarrel(0, -1));
    }

    private static void meant() {
        LastWord x = Check.told("w1 5 3 0 1 9 0;w1 5 7 0 0 9 0;w1 5 7 0 0 9 0;");
        Check.due("7 the NEAREST, the lowest", 1, x.meant(0, 0));
        Check.due("7 not who wrote it", 2, x.meant(1, 0));
        Check.due("7 nobody near", LastWord.NONE, x.meant(0, 1));
        Check.due("7 near by 1", 0, x.meant(1, 2));
        Check.due("7 only himself near", LastWord.NONE, x.meant(0, 2));
        Check.due("7 the lowest of three", 0, x.meant(2, 3));
        x.lays(1);
        Check.due("7 not who LAID down", 2, x.meant(0, 0));
        Check.due("7 by one who LAID down", 2, x.meant(1, 0));
        x.lays(2);
        Check.due("7 the last one left", 0, x.meant(1, 0));
        Check.due("7 nobody left", LastWord.NONE, x.meant(0, 0));
        Check.due("7 meant(3, 0)", LastWord.BAD, x.meant(3, 0));
        Check.due("7 meant(-1, 0)", LastWord.BAD, x.meant(-1, 0));
        Check.due("7 meant(0, 5)", LastWord.BAD, x.meant(0, 5));
        Check.due("7 meant(0, -1)", LastWord.BAD, x.meant(0, -1));
    }

    private static void now() {
        LastWord x = Check.told("w1 5 9 0 0 0 0;w2 5 9 0 0 0 0;");
        x.writes(0, 0);
        x.writes(0, 1);
        x.writes(1, 0);
        x.day();
        Check.due("8 THE DAY", 1, x.now(0));
        Check.due("8 QUARRELS", 3, x.now(1));
        Check.due("8 CLOSED", 2, x.now(2));
        Check.due("8 LETTERS", 4, x.now(3));
        Check.due("8 UNDONE", 4, x.now(4));
        Check.days(x, 9);
        Check.due("8 UNDONE at most", 10, x.now(4));
        Check.due("8 now(5)", LastWord.BAD, x.now(5));
        Check.due("8 now(-1)", LastWord.BAD, x.now(-1));
    }
}
