/** Promises 9 to 12: what is done. */
public final class DoneTest {
    private static final int NONE = LastWord.NONE;

    public static void main(String[] args) {
        writes();
        dayByDesk();
        dayByDate();
        dayOnHobby();
        dayLate();
        lastDay();
        lays();
        laysLate();
        undo();
        undoAtMost();
        Check.end();
    }

    private static void writes() {
        LastWord x = Check.told("w4 5 9 0 0 0 0;w3 5 9 0 0 0 0;");
        x.day();
        Check.due("9 writes(0, 0)", 0, x.writes(0, 0));
        Check.due("9 who OWES", 1, x.quarrel(0, 3));
        Check.due("9 WORK", 3, x.quarrel(0, 4));
        Check.due("9 the DAY", 1, x.quarrel(0, 2));
        Check.due("9 writes(0, 4)", 1, x.writes(0, 4));
        Check.due("9 CLOSED at once", NONE, x.quarrel(1, 3));
        Check.due("9 LETTERS", 2, x.now(3));
        Check.due("9 writes(2, 0)", LastWord.BAD, x.writes(2, 0));
        Check.due("9 writes(-1, 0)", LastWord.BAD, x.writes(-1, 0));
        Check.due("9 writes(0, 5)", LastWord.BAD, x.writes(0, 5));
        Check.due("9 writes(0, -1)", LastWord.BAD, x.writes(0, -1));
        x.lays(1);
        Check.due("9 writes(1, 0) of one who LAID down", LastWord.STATE, x.writes(1, 0));
        Check.due("9 writes(1, 5) of one who LAID down", LastWord.BAD, x.writes(1, 5));
        for (int q = 2; q < 6; q++) {
            Check.due("9 writes(0, 0)", q, x.writes(0, 0));
        }
        Check.due("9 a seventh", LastWord.FULL, x.writes(0, 0));
        Check.due("9 a seventh of one who LAID down", LastWord.STATE, x.writes(1, 0));
        Check.due("9 a seventh of nobody", LastWord.BAD, x.writes(2, 0));
        Check.due("9 QUARRELS", 6, x.now(1));
        Check.due("9 LETTERS", 6, x.now(3));
        Check.due("9 what may be UNDONE", 8, x.now(4));
    }

    private static void dayByDesk() {
        LastWord x = Check.told("w1 5 0 0 0 0 0;w2 5 9 9 0 0 0;");
        x.writes(0, 0);
        x.writes(0, 1);
        int[] printed = {0, 1, 0, 1, 0};
        int[][] work = {{1, 2}, {0, 2}, {0, 1}, {0, 0}, {0, 0}};
        for (int i = 0; i < printed.length; i++) {
            Check.due("10 day() " + i, printed[i], x.day());
            Check.due("10 THE DAY", i + 1, x.now(0));
            Check.due("10 WORK of 0 on " + i, work[i][0], x.quarrel(0, 4));
            Check.due("10 WORK of 1 on " + i, work[i][1], x.quarrel(1, 4));
        }
        Check.due("10 LETTERS", 4, x.now(3));
        Check.due("10 who wrote", 1, x.quarrel(1, 0));
        Check.due("10 on what", 1, x.quarrel(1, 1));
        Check.due("10 when", 4, x.quarrel(1, 2));
    }

    private static void dayByDate() {
        LastWord x = Check.told("w1 5 9 0 0 0 0;w3 5 9 0 0 0 0;");
        x.writes(1, 0);
        x.writes(0, 0);
        Check.due("10 day()", 1, x.day());
        Check.due("10 now both are owed by 1", 2, x.writer(1, 8));
        Check.due("10 day()", 0, x.day());
        Check.due("10 the LETTER printed later waits", 3, x.quarrel(0, 4));
        Check.due("10 the one printed first", 1, x.quarrel(1, 4));
        Check.due("10 day()", 1, x.day());
        Check.due("10 day()", 1, x.day());
        Check.due("10 worked on now", 2, x.quarrel(0, 4));
        Check.due("10 a new one waits", 3, x.quarrel(1, 4));
    }

    private static void dayOnHobby() {
        LastWord x = Check.told("w1 3 9 0 0 0 0;w1 5 9 0 0 8 0;");
        x.writes(1, 0);
        Check.due("10 day()", 1, x.day());
        Check.due("10 on his HOBBY", 3, x.quarrel(0, 1));
        Check.due("10 who OWES", 1, x.quarrel(0, 3));
        Check.due("10 day()", 1, x.day());
        Check.due("10 on the SUBJECT it was", 3, x.quarrel(0, 1));
        Check.due("10 CLOSED", NONE, x.quarrel(0, 3));
        Check.due("10 day() of nothing", 0, x.day());
    }

    private static void dayLate() {
        LastWord x = Check.told("t2;w1 5 0 0 0 0 0;w2 5 9 9 0 0 0;");
        x.writes(0, 0);
        x.writes(0, 0);
        x.day();
        Check.due("10 not LATE yet", 0, x.quarrel(1, 5));
        x.day();
        Check.due("10 printed in the last DAY", 0, x.quarrel(0, 5));
        Check.due("10 LATE", 1, x.quarrel(1, 5));
        Check.due("10 how often", 1, x.writer(1, 9));
        x.day();
        Check.due("10 LATE still", 1, x.quarrel(1, 5));
        Check.due("10 counted once", 1, x.writer(1, 9));
        x.day();
        Check.due("10 printed is not LATE", 0, x.quarrel(1, 5));
        Check.due("10 how often it was", 1, x.writer(1, 9));
        Check.due("10 never", 0, x.writer(0, 9));
    }

    /** Beyond 512 calls answers are free; but DAY 999 is to be seen in no other way. */
    private static void lastDay() {
        LastWord x = Check.told("w1 5 9 0 0 0 0;w1 5 9 0 0 0 0;");
        Check.days(x, 999);
        Check.due("10 THE DAY", 999, x.now(0));
        Check.due("10 day() of DAY 999", LastWord.STATE, x.day());
        Check.due("10 THE DAY stays", 999, x.now(0));
        Check.due("10 UNDONE", 9, x.undo());
        Check.due("10 day() of DAY 998", 0, x.day());
    }

    private static void lays() {
        LastWord x = Check.told("w1 5 0 0 0 0 0;w5 5 9 0 0 0 0;w7 5 8 9 0 0 0;");
        x.writes(0, 0);
        x.writes(2, 0);
        x.writes(0, 1);
        x.day();
        Check.due("11 WORK of the first", 4, x.quarrel(0, 4));
        Check.due("11 lays(1)", 2, x.lays(1));
        Check.due("11 LAID", 1, x.writer(1, 7));
        Check.due("11 OWES no more", 0, x.writer(1, 8));
        Check.due("11 who OWES then", 2, x.quarrel(0, 3));
        Check.due("11 WORK is his PEN", 7, x.quarrel(0, 4));
        Check.due("11 the DAY is as it was", 0, x.quarrel(0, 2));
        Check.due("11 nobody: CLOSED", NONE, x.quarrel(1, 3));
        Check.due("11 CLOSED: no WORK", 0, x.quarrel(1, 4));
        Check.due("11 what others OWE stays", 6, x.quarrel(2, 4));
        Check.due("11 LETTERS", 3, x.now(3));
        Check.due("11 lays(1) again", LastWord.STATE, x.lays(1));
        Check.due("11 lays(3)", LastWord.BAD, x.lays(3));
        Check.due("11 lays(-1)", LastWord.BAD, x.lays(-1));
        Check.due("11 lays(0) who OWES none", 0, x.lays(0));
        Check.due("11 lays(2)", 2, x.lays(2));
        Check.due("11 all CLOSED", 7, x.now(2));
        Check.due("11 what may be UNDONE", 7, x.now(4));
    }

    private static void laysLate() {
        LastWord x = Check.told("t2;w1 5 0 0 0 0 0;w5 5 9 0 0 0 0;w7 5 8 0 0 0 0;");
        x.writes(0, 0);
        x.day();
        x.writes(0, 0);
        x.day();
        x.lays(1);
        Check.due("11 LATE as it was", 1, x.quarrel(0, 5));
        Check.due("11 not LATE as it was", 0, x.quarrel(1, 5));
        Check.due("11 counted for who OWED it", 1, x.writer(1, 9));
        Check.due("11 not for who OWES it now", 0, x.writer(2, 9));
        x.day();
        Check.due("11 LATE by the LETTER's DAY", 1, x.quarrel(1, 5));
        Check.due("11 counted for who OWES it now", 1, x.writer(2, 9));
        x.lays(2);
        Check.due("11 LATE though CLOSED", 1, x.quarrel(0, 5));
        Check.due("11 CLOSED", 3, x.now(2));
        x.day();
        Check.due("11 counted no more", 1, x.writer(2, 9));
    }

    private static void undo() {
        LastWord x = Check.told("t1;w2 5 9 0 0 0 0;w2 5 9 0 0 0 0;");
        Check.due("12 undo() of nothing", LastWord.STATE, x.undo());
        x.writes(0, 0);
        x.day();
        x.lays(1);
        x.lays(1);
        x.writes(1, 0);
        x.found(0, 0, 1);
        Check.due("12 undo() of lays()", 2, x.undo());
        Check.due("12 LAID no more", 0, x.writer(1, 7));
        Check.due("12 OWES again", 1, x.quarrel(0, 3));
        Check.due("12 WORK again", 1, x.quarrel(0, 4));
        Check.due("12 LATE again", 1, x.quarrel(0, 5));
        Check.due("12 undo() of day()", 1, x.undo());
        Check.due("12 THE DAY", 0, x.now(0));
        Check.due("12 WORK", 2, x.quarrel(0, 4));
        Check.due("12 LATE", 0, x.quarrel(0, 5));
        Check.due("12 how often LATE", 0, x.writer(1, 9));
        Check.due("12 undo() of writes()", 0, x.undo());
        Check.due("12 QUARRELS", 0, x.now(1));
        Check.due("12 LETTERS", 0, x.now(3));
        Check.due("12 FOUND is not UNDONE", 1, x.count(2));
        Check.due("12 undo() of nothing", LastWord.STATE, x.undo());
    }

    private static void undoAtMost() {
        LastWord x = Check.told("w2 5 9 0 0 0 0;");
        Check.days(x, 25);
        for (int left = 9; left >= 0; left--) {
            Check.due("12 undo()", left, x.undo());
            Check.due("12 THE DAY", 15 + left, x.now(0));
        }
        Check.due("12 older ones are lost", LastWord.STATE, x.undo());
        Check.due("12 THE DAY stays", 15, x.now(0));
        Check.days(x, 3);
        Check.due("12 undo() again", 2, x.undo());
    }
}
