/** Section 2 and promises 5 to 12 at their edges: quarrels, days gone by, pens laid down, all of it undone. */
public final class EdgeDoneTest {
    private static final int NONE = LastWord.NONE;
    private static final int BAD = LastWord.BAD;
    private static final int STATE = LastWord.STATE;
    private static final int FULL = LastWord.FULL;
    private static final String QUIET = "w1 5 0 0 0 0 0;";

    public static void main(String[] args) {
        meantOfNobody();
        meantByNear();
        meantOfSix();
        answerOnHobby();
        quarrelsAtMost();
        writesRefusedInOrder();
        lastWordAtOnce();
        pensAtTheirEdges();
        worksOnOne();
        worksOnTheFirstPrinted();
        sixAnswersInADay();
        noAnswersInADay();
        lateOnTheDay();
        lateOnceAndNoMore();
        lateByTheLatestLetter();
        sixLate();
        laysOfAll();
        laysOfNothing();
        laysWork();
        laysLateAsItWas();
        laysOnTheLastDay();
        laysRefusedInOrder();
        undoTenth();
        undoEleventh();
        undoOfEach();
        undoNotOfRefused();
        undoNotOfOthers();
        undoAndOn();
        dayZero();
        lastDay();
        Check.end();
    }

    // "of those who have not LAID DOWN the pen, but him who wrote it, the one NEAREST to its SUBJECT (of several the
    // lowest), if that is 1 at least; or nobody"

    private static void meantOfNobody() {
        LastWord one = Check.told("w1 5 9 9 9 9 9;");
        for (int s = 0; s < 5; s++) {
            Check.due("7 the only one wrote it", NONE, one.meant(0, s));
        }
        LastWord two = Check.told("w1 5 0 0 0 0 0;w1 5 0 0 0 0 1;");
        for (int s = 0; s < 4; s++) {
            Check.due("7 NEAR is 0", NONE, two.meant(0, s));
        }
        Check.due("7 NEAR is 1", 1, two.meant(0, 4));
        Check.due("7 NEAR is 1, but he wrote it", NONE, two.meant(1, 4));
    }

    private static void meantByNear() {
        LastWord x = Check.told("w1 5 8 9 9 0 1;w1 5 9 9 8 0 2;w1 5 9 9 9 1 1;");
        Check.due("7 the lowest of those by 9", 1, x.meant(0, 0));
        Check.due("7 not who wrote it", 2, x.meant(1, 0));
        Check.due("7 9 ahead of 8", 1, x.meant(2, 0));
        Check.due("7 the lowest of three", 0, x.meant(2, 1));
        Check.due("7 the next, if he wrote it", 1, x.meant(0, 1));
        Check.due("7 the highest number", 2, x.meant(0, 2));
        Check.due("7 1 ahead of 0", 2, x.meant(0, 3));
        Check.due("7 2 ahead of 1", 1, x.meant(0, 4));
        Check.due("7 1, if 2 wrote it", 0, x.meant(1, 4));
    }

    private static void meantOfSix() {
        LastWord x = Check.told("w1 5 0 0 0 0 1;".repeat(6));
        for (int laid = 0; laid < 5; laid++) {
            Check.due("7 the lowest who has not LAID down", laid, x.meant(5, 4));
            Check.due("7 but him who wrote it", laid + 1, x.meant(laid, 4));
            x.lays(laid);
            Check.due("7 of one who LAID down", laid + 1, x.meant(laid, 4));
        }
        Check.due("7 all others LAID down", NONE, x.meant(5, 4));
        Check.due("7 the last one left", 5, x.meant(4, 4));
        x.lays(5);
        Check.due("7 all LAID down", NONE, x.meant(4, 4));
    }

    // "His answer is on his HOBBY (without one on the SUBJECT it was)."

    private static void answerOnHobby() {
        for (int hobby = 0; hobby <= 5; hobby++) {
            LastWord x = Check.told(QUIET + "w1 " + hobby + " 9 9 9 9 9;");
            for (int s = 0; s < 5; s++) {
                x.writes(0, s);
            }
            Check.days(x, 5);
            for (int s = 0; s < 5; s++) {
                Check.due("10 who answered on " + s, 1, x.quarrel(s, 0));
                Check.due("10 HOBBY " + hobby + " for " + s, hobby == 5 ? s : hobby, x.quarrel(s, 1));
            }
        }
    }

    // "QUARRELS 0 .. (6 at most)"

    private static void quarrelsAtMost() {
        LastWord x = Check.told(QUIET + "w9 5 9 0 0 0 0;");
        Check.due("8 no QUARRELS", 0, x.now(1));
        Check.due("8 none CLOSED", 0, x.now(2));
        for (int q = 0; q < 6; q++) {
            Check.due("9 writes()", q, x.writes(0, q % 2));
            Check.due("8 QUARRELS", q + 1, x.now(1));
            Check.due("8 LETTERS", q + 1, x.now(3));
        }
        Check.due("9 a seventh", FULL, x.writes(0, 0));
        Check.due("8 QUARRELS stay", 6, x.now(1));
        Check.due("8 CLOSED", 2 + 8 + 32, x.now(2));
        Check.due("8 LETTERS stay", 6, x.now(3));
        Check.days(x, 9);
        Check.due("9 a CLOSED one makes no room", FULL, x.writes(0, 0));
        Check.due("9 QUARREL 0 is CLOSED", 1 + 2 + 8 + 32, x.now(2));
        LastWord y = Check.told(QUIET);
        for (int q = 0; q < 6; q++) {
            y.writes(0, 0);
        }
        Check.due("12 undo()", 5, y.undo());
        Check.due("9 room again", 5, y.writes(0, 4));
        Check.due("9 a seventh again", FULL, y.writes(0, 4));
    }

    private static void writesRefusedInOrder() {
        LastWord x = Check.told(QUIET + QUIET);
        x.lays(1);
        Check.due("9 BAD ahead of STATE", BAD, x.writes(1, 5));
        Check.due("9 BAD ahead of STATE", BAD, x.writes(1, -1));
        Check.due("9 STATE", STATE, x.writes(1, 4));
        for (int q = 0; q < 6; q++) {
            x.writes(0, 0);
        }
        Check.due("9 BAD ahead of FULL", BAD, x.writes(0, 5));
        Check.due("9 BAD ahead of FULL", BAD, x.writes(2, 0));
        Check.due("9 BAD ahead of STATE and FULL", BAD, x.writes(1, 5));
        Check.due("9 STATE ahead of FULL", STATE, x.writes(1, 0));
        Check.due("9 FULL", FULL, x.writes(0, 0));
    }

    // "nobody: it is CLOSED, and who wrote that one has the LAST WORD"

    private static void lastWordAtOnce() {
        LastWord x = Check.told(QUIET);
        x.writes(0, 4);
        int[] want = {0, 4, 0, NONE, 0, 0};
        for (int what = 0; what < 6; what++) {
            Check.due("6 quarrel(0, " + what + ")", want[what], x.quarrel(0, what));
        }
        Check.due("8 CLOSED", 1, x.now(2));
        Check.due("25 he has it", 0, x.most());
        Check.days(x, 30);
        Check.due("10 CLOSED is never LATE", 0, x.quarrel(0, 5));
        Check.due("10 CLOSED stays so", 0, x.quarrel(0, 2));
        Check.due("8 LETTERS", 1, x.now(3));
    }

    // "a PEN (1 .. 9 DAYS for a letter)", "its WORK is 1 less", "one with no WORK left is answered: printed on THE DAY"

    private static void pensAtTheirEdges() {
        for (int pen = 1; pen <= 9; pen++) {
            LastWord x = Check.told(QUIET + "w" + pen + " 5 9 0 0 0 0;");
            x.day();
            x.writes(0, 0);
            for (int left = pen; left > 0; left--) {
                Check.due("6 WORK of PEN " + pen, left, x.quarrel(0, 4));
                Check.due("10 day()", left == 1 ? 1 : 0, x.day());
            }
            Check.due("6 who wrote it", 1, x.quarrel(0, 0));
            Check.due("6 printed on THE DAY", pen + 1, x.quarrel(0, 2));
            Check.due("6 no WORK", 0, x.quarrel(0, 4));
            Check.due("8 LETTERS", 2, x.now(3));
        }
    }

    // "each WRITER who OWES any works on one of these, the one whose LETTER was printed first (of several the lowest
    // QUARREL)"

    private static void worksOnOne() {
        LastWord x = Check.told(QUIET + "w1 5 9 0 0 0 0;");
        for (int q = 0; q < 6; q++) {
            x.writes(0, 0);
        }
        for (int q = 0; q < 6; q++) {
            Check.due("5 OWED on DAY " + q, 6 - q, x.writer(1, 8));
            Check.due("10 the lowest of those printed then", 1, x.day());
            Check.due("8 CLOSED", (2 << q) - 1, x.now(2));
        }
        Check.due("10 nothing left", 0, x.day());
        Check.due("5 nothing OWED", 0, x.writer(1, 8));
    }

    private static void worksOnTheFirstPrinted() {
        // QUARREL 0 is answered by 1 on DAY 1, then OWED by 2, who works on QUARREL 1, printed on DAY 0, till DAY 4
        LastWord x = Check.told("w1 5 0 0 0 0 0;w1 1 9 0 0 0 0;w4 5 0 9 9 0 0;");
        x.writes(0, 0);
        x.writes(0, 2);
        x.day();
        Check.due("6 both are OWED by 2", 2, x.writer(2, 8));
        int[][] work = {{4, 3}, {4, 2}, {4, 1}, {4, 0}, {3, 0}, {2, 0}, {1, 0}, {0, 0}};
        for (int[] left : work) {
            Check.due("6 WORK of 0", left[0], x.quarrel(0, 4));
            Check.due("6 WORK of 1", left[1], x.quarrel(1, 4));
            x.day();
        }
        Check.due("6 the DAY of 1", 4, x.quarrel(1, 2));
        Check.due("6 the DAY of 0", 8, x.quarrel(0, 2));
    }

    // "Then, by QUARRELS: one with no WORK left is answered", "how many answers were printed"

    private static void sixAnswersInADay() {
        LastWord x = Check.told("w1 5 9 0 0 0 0;w1 5 0 9 0 0 0;w1 5 0 0 9 0 0;w1 5 0 0 0 9 0;w1 5 0 0 0 0 9;"
            + "w1 5 8 0 0 0 0;");
        x.writes(0, 0);
        for (int s = 0; s < 5; s++) {
            x.writes(5, s);
        }
        Check.due("10 each answers one", 6, x.day());
        Check.due("8 LETTERS", 12, x.now(3));
        Check.due("8 CLOSED", 4 + 8 + 16 + 32, x.now(2));
        Check.due("6 who OWES 0", 0, x.quarrel(0, 3));
        Check.due("6 who OWES 1", 5, x.quarrel(1, 3));
        Check.due("10 those two go on", 2, x.day());
        Check.due("8 LETTERS", 14, x.now(3));
    }

    private static void noAnswersInADay() {
        Check.due("10 no WRITERS", 0, new LastWord().day());
        Check.due("10 no QUARRELS", 0, Check.told("w1 5 9 9 9 9 9;".repeat(6)).day());
        LastWord x = Check.told(QUIET);
        x.writes(0, 0);
        Check.due("10 all CLOSED", 0, x.day());
    }

    // "One that is OWED still, whose LETTER was printed TERM DAYS ago just now, is LATE, and counted as that for him
    // who OWES it"

    private static void lateOnTheDay() {
        for (int term = 1; term <= 20; term++) {
            // QUARREL 2 is answered on DAY 1 + 27, so it is LATE for every TERM
            LastWord x = Check.told("t" + term + ";" + QUIET + "w9 5 9 0 0 0 0;");
            x.day();
            x.writes(0, 0);
            x.writes(0, 0);
            x.writes(0, 0);
            Check.days(x, term - 1);
            Check.due("10 the DAY ahead of TERM " + term, 0, x.quarrel(2, 5));
            Check.due("10 none counted yet", 0, x.writer(1, 9));
            x.day();
            int first = term < 9 ? 1 : 0;
            int second = term < 18 ? 1 : 0;
            Check.due("10 LATE, or answered on DAY 10, of TERM " + term, first, x.quarrel(0, 5));
            Check.due("10 LATE, or answered on DAY 19, of TERM " + term, second, x.quarrel(1, 5));
            Check.due("10 LATE of TERM " + term, 1, x.quarrel(2, 5));
            Check.due("10 counted", first + second + 1, x.writer(1, 9));
        }
    }

    // "(an answer printed is not LATE any more)"

    private static void lateOnceAndNoMore() {
        LastWord x = Check.told("t1;" + QUIET + "w9 5 9 0 0 0 0;");
        x.writes(0, 0);
        Check.due("10 not LATE on its own DAY", 0, x.quarrel(0, 5));
        for (int day = 1; day < 9; day++) {
            x.day();
            Check.due("10 LATE on DAY " + day, 1, x.quarrel(0, 5));
            Check.due("10 counted once", 1, x.writer(1, 9));
        }
        x.day();
        Check.due("10 printed is not LATE", 0, x.quarrel(0, 5));
        Check.due("10 counted it stays", 1, x.writer(1, 9));
        Check.due("10 for no other", 0, x.writer(0, 9));
        LastWord quick = Check.told("t1;w1 5 9 0 0 0 0;w1 5 9 0 0 0 0;");
        quick.writes(0, 0);
        Check.days(quick, 20);
        Check.due("10 PEN 1 keeps TERM 1", 0, quick.writer(0, 9) + quick.writer(1, 9));
        Check.due("8 LETTERS", 21, quick.now(3));
    }

    private static void lateByTheLatestLetter() {
        LastWord x = Check.told("t2;w3 5 9 0 0 0 0;w2 5 9 0 0 0 0;");
        x.writes(0, 0);
        int[] late = {0, 0, 0, 1, 0, 0, 0, 0, 1, 0};
        int[] count = {0, 0, 0, 1, 1, 1, 1, 1, 2, 2};
        // 1 answers on DAY 2, 0 on DAY 5 (LATE on DAY 4), 1 on DAY 7, 0 on DAY 10 (LATE on DAY 9)
        for (int day = 1; day <= 10; day++) {
            x.day();
            Check.due("10 LATE on DAY " + day, late[day - 1], x.quarrel(0, 5));
            Check.due("10 how often by DAY " + day, count[day - 1], x.writer(0, 9));
            Check.due("10 the other never", 0, x.writer(1, 9));
        }
    }

    private static void sixLate() {
        LastWord x = Check.told("t1;" + QUIET + "w2 5 9 0 0 0 0;");
        for (int q = 0; q < 6; q++) {
            x.writes(0, 0);
        }
        x.day();
        Check.due("5 LATE by six", 6, x.writer(1, 9));
        for (int q = 0; q < 6; q++) {
            Check.due("6 LATE", 1, x.quarrel(q, 5));
        }
        x.day();
        Check.due("6 QUARREL 0 is printed", 0, x.quarrel(0, 5));
        Check.due("6 QUARREL 1 is LATE still", 1, x.quarrel(1, 5));
        Check.due("5 LATE by six", 6, x.writer(1, 9));
    }

    // "LAID DOWN: a WRITER answers no more; what he OWES is OWED by who is MEANT then (WORK: that one's PEN), or CLOSED
    // (LATE or not as it was)."

    private static void laysOfAll() {
        LastWord x = Check.told(QUIET + "w9 5 9 0 0 0 0;w8 5 8 0 0 0 0;");
        for (int q = 0; q < 6; q++) {
            x.writes(0, 0);
        }
        Check.due("11 lays(1), who OWED six", 6, x.lays(1));
        Check.due("5 all OWED by 2", 6, x.writer(2, 8));
        Check.due("11 lays(2), who OWES six", 6, x.lays(2));
        Check.due("8 all CLOSED", 63, x.now(2));
        Check.due("11 lays(0), who OWED none", 0, x.lays(0));
        Check.due("8 QUARRELS stay", 6, x.now(1));
        Check.due("8 LETTERS stay", 6, x.now(3));
        Check.due("25 one who LAID down has LAST WORDS", 0, x.most());
        Check.due("10 all LAID down", 0, x.day());
        for (int w = 0; w < 3; w++) {
            Check.due("11 again", STATE, x.lays(w));
            Check.due("9 writes() of one who LAID down", STATE, x.writes(w, 0));
        }
    }

    private static void laysOfNothing() {
        LastWord x = Check.told("w9 5 9 0 0 0 0;w9 5 8 0 0 0 0;w9 5 7 0 0 0 0;");
        Check.due("11 no QUARRELS", 0, x.lays(2));
        x.writes(1, 0);
        x.day();
        Check.due("11 who wrote it OWES none", 0, x.lays(1));
        Check.due("6 WORK stays", 8, x.quarrel(0, 4));
        Check.due("6 who OWES stays", 0, x.quarrel(0, 3));
        Check.days(x, 8);
        Check.due("6 answered, and nobody is left", NONE, x.quarrel(0, 3));
        Check.due("6 who has the LAST WORD", 0, x.quarrel(0, 0));
    }

    private static void laysWork() {
        LastWord x = Check.told(QUIET + "w5 3 9 0 0 0 0;w1 5 8 0 0 0 0;w9 5 7 0 0 0 0;");
        x.writes(0, 0);
        Check.days(x, 4);
        Check.due("6 WORK", 1, x.quarrel(0, 4));
        x.lays(1);
        Check.due("6 WORK is 2's PEN", 1, x.quarrel(0, 4));
        Check.due("6 OWED by 2", 2, x.quarrel(0, 3));
        x.lays(2);
        Check.due("6 WORK is 3's PEN", 9, x.quarrel(0, 4));
        Check.due("6 the LETTER stays", 0, x.quarrel(0, 0));
        Check.due("6 its SUBJECT stays", 0, x.quarrel(0, 1));
        Check.due("6 its DAY stays", 0, x.quarrel(0, 2));
        x.lays(3);
        Check.due("6 CLOSED: no WORK", 0, x.quarrel(0, 4));
        Check.due("6 CLOSED", NONE, x.quarrel(0, 3));
    }

    private static void laysLateAsItWas() {
        LastWord x = Check.told("t2;" + QUIET + "w9 5 9 0 0 0 0;w3 5 8 0 0 0 0;");
        x.writes(0, 0);
        x.day();
        x.writes(0, 0);
        x.day();
        x.lays(1);
        Check.due("6 LATE as it was", 1, x.quarrel(0, 5));
        Check.due("6 not LATE as it was", 0, x.quarrel(1, 5));
        x.lays(2);
        Check.due("6 LATE though CLOSED", 1, x.quarrel(0, 5));
        Check.due("6 not LATE and CLOSED", 0, x.quarrel(1, 5));
        Check.days(x, 5);
        Check.due("6 LATE as it was, for ever", 1, x.quarrel(0, 5));
        Check.due("6 CLOSED is not LATE by its DAY", 0, x.quarrel(1, 5));
        Check.due("5 LATE of 1", 1, x.writer(1, 9));
        Check.due("5 LATE of 2", 0, x.writer(2, 9));
        LastWord again = Check.told("t2;" + QUIET + "w9 5 9 0 0 0 0;w3 5 8 0 0 0 0;");
        again.writes(0, 0);
        Check.days(again, 2);
        again.lays(1);
        Check.days(again, 2);
        Check.due("5 LATE already, not counted for 2", 0, again.writer(2, 9));
        again.day();
        Check.due("6 printed is not LATE", 0, again.quarrel(0, 5));
    }

    private static void laysOnTheLastDay() {
        LastWord x = Check.told("t3;" + QUIET + "w9 5 9 0 0 0 0;w9 5 8 0 0 0 0;");
        x.writes(0, 0);
        Check.days(x, 2);
        x.lays(1);
        x.day();
        Check.due("5 LATE of 2, who OWES it on that DAY", 1, x.writer(2, 9));
        Check.due("5 not of 1", 0, x.writer(1, 9));
        LastWord quick = Check.told("t3;" + QUIET + "w9 5 9 0 0 0 0;w1 5 8 0 0 0 0;");
        quick.writes(0, 0);
        Check.days(quick, 2);
        quick.lays(1);
        Check.due("10 printed on that DAY", 1, quick.day());
        Check.due("5 not LATE", 0, quick.writer(2, 9));
    }

    private static void laysRefusedInOrder() {
        LastWord x = Check.told(QUIET);
        Check.due("11 lays(0)", 0, x.lays(0));
        Check.due("11 STATE", STATE, x.lays(0));
        Check.due("11 BAD, all LAID down", BAD, x.lays(1));
        Check.due("11 BAD, all LAID down", BAD, x.lays(-1));
        Check.due("12 undo()", 0, x.undo());
        Check.due("11 lays(0) behind undo()", 0, x.lays(0));
    }

    // "UNDONE: the latest writes(), day(), lays() that was not refused (10 are known, older ones are lost)."

    private static LastWord sixWritten() {
        LastWord x = Check.told(QUIET + QUIET);
        for (int q = 0; q < 6; q++) {
            x.writes(0, q % 5);
        }
        return x;
    }

    private static void undoTenth() {
        LastWord x = sixWritten();
        Check.days(x, 3);
        x.lays(1);
        Check.due("8 UNDONE", 10, x.now(4));
        for (int left = 9; left >= 0; left--) {
            Check.due("12 undo()", left, x.undo());
            Check.due("8 UNDONE", left, x.now(4));
        }
        Check.due("12 the tenth was the first", 0, x.now(1));
        Check.due("8 THE DAY", 0, x.now(0));
        Check.due("8 LETTERS", 0, x.now(3));
        Check.due("12 nothing left", STATE, x.undo());
    }

    private static void undoEleventh() {
        LastWord x = sixWritten();
        Check.days(x, 4);
        x.lays(1);
        Check.due("8 UNDONE stays at 10", 10, x.now(4));
        for (int left = 9; left >= 0; left--) {
            Check.due("12 undo()", left, x.undo());
        }
        Check.due("12 the eleventh is lost", STATE, x.undo());
        Check.due("8 the first QUARREL stays", 1, x.now(1));
        Check.due("8 THE DAY", 0, x.now(0));
        Check.due("8 LETTERS", 1, x.now(3));
        Check.due("8 UNDONE", 0, x.now(4));
    }

    private static void undoOfEach() {
        LastWord x = Check.told("t1;" + QUIET + "w2 5 9 0 0 0 0;w7 5 8 0 0 0 0;");
        Check.due("12 nothing yet", STATE, x.undo());
        x.writes(0, 0);
        Check.due("12 undo() of writes()", 0, x.undo());
        Check.due("6 no QUARREL", BAD, x.quarrel(0, 0));
        Check.due("5 OWED", 0, x.writer(1, 8));
        x.writes(0, 0);
        x.day();
        Check.due("12 undo() of day()", 1, x.undo());
        Check.due("6 WORK", 2, x.quarrel(0, 4));
        Check.due("6 LATE", 0, x.quarrel(0, 5));
        Check.due("5 LATE", 0, x.writer(1, 9));
        Check.due("8 THE DAY", 0, x.now(0));
        x.day();
        x.lays(1);
        Check.due("12 undo() of lays()", 2, x.undo());
        Check.due("5 LAID", 0, x.writer(1, 7));
        Check.due("6 WORK left of it", 1, x.quarrel(0, 4));
        Check.due("6 who OWES", 1, x.quarrel(0, 3));
        Check.due("10 day() prints", 1, x.day());
        Check.due("12 undo() of an answer", 2, x.undo());
        Check.due("6 who wrote the latest", 0, x.quarrel(0, 0));
        Check.due("6 its DAY", 0, x.quarrel(0, 2));
        Check.due("6 LATE again", 1, x.quarrel(0, 5));
        Check.due("8 LETTERS", 1, x.now(3));
    }

    private static void undoNotOfRefused() {
        LastWord x = sixWritten();
        x.lays(1);
        x.writes(0, 0);
        x.writes(1, 0);
        x.writes(0, 5);
        x.writes(2, 0);
        x.lays(1);
        x.lays(2);
        Check.due("8 UNDONE", 7, x.now(4));
        Check.due("12 undo() of lays(1)", 6, x.undo());
        Check.due("5 LAID", 0, x.writer(1, 7));
        Check.due("8 QUARRELS", 6, x.now(1));
        Check.due("12 undo() of the sixth", 5, x.undo());
        Check.due("8 QUARRELS", 5, x.now(1));
    }

    private static void undoNotOfOthers() {
        LastWord x = Check.told(QUIET + QUIET);
        x.day();
        x.found(0, 0, -1);
        x.keep(0);
        x.rate(0, 0);
        x.type('t');
        x.clear();
        x.forget();
        Check.due("8 UNDONE", 1, x.now(4));
        x.undo();
        Check.due("8 THE DAY", 0, x.now(0));
        Check.due("12 undo() is not UNDONE", STATE, x.undo());
        Check.due("31 THE TRACE stays", 1, x.trace());
        Check.due("29 the IMAGE stays", 1, x.back(0));
        x.day();
        x.back(0);
        Check.due("12 nothing behind back()", STATE, x.undo());
        Check.due("8 THE DAY", 1, x.now(0));
    }

    private static void undoAndOn() {
        LastWord x = Check.told(QUIET);
        // four days and one undone are three more, but of ten known at most one is undone
        int[] left = {3, 6, 9, 9, 9, 9, 9};
        for (int round = 0; round < left.length; round++) {
            Check.days(x, 4);
            Check.due("12 undo() of round " + round, left[round], x.undo());
            Check.due("8 THE DAY", 3 * round + 3, x.now(0));
        }
        for (int more = 8; more >= 0; more--) {
            Check.due("12 undo()", more, x.undo());
            Check.due("8 THE DAY", 12 + more, x.now(0));
        }
        Check.due("12 nothing left", STATE, x.undo());
    }

    // "THE DAY (0 at first; 999 at most)"

    private static void dayZero() {
        LastWord x = Check.told(QUIET);
        Check.due("8 THE DAY", 0, x.now(0));
        x.writes(0, 0);
        Check.due("6 printed on DAY 0", 0, x.quarrel(0, 2));
        Check.due("8 writes() lets no DAY go by", 0, x.now(0));
        x.lays(0);
        Check.due("8 lays() lets no DAY go by", 0, x.now(0));
        x.day();
        Check.due("8 THE DAY", 1, x.now(0));
    }

    /** Beyond 512 calls answers are free; but DAY 999 is to be seen in no other way. */
    private static void lastDay() {
        LastWord x = Check.told("w1 5 9 0 0 0 0;w1 5 9 0 0 0 0;");
        Check.days(x, 998);
        Check.due("9 writes() on DAY 998", 0, x.writes(0, 0));
        Check.due("10 the last DAY", 1, x.day());
        Check.due("8 THE DAY", 999, x.now(0));
        Check.due("10 day() of DAY 999", STATE, x.day());
        Check.due("8 THE DAY stays", 999, x.now(0));
        Check.due("8 UNDONE stays", 10, x.now(4));
        Check.due("8 LETTERS stay", 2, x.now(3));
        Check.due("6 WORK stays", 1, x.quarrel(0, 4));
        Check.due("9 writes() on DAY 999", 1, x.writes(0, 4));
        Check.due("6 printed on DAY 999", 999, x.quarrel(1, 2));
        Check.due("11 lays() on DAY 999", 1, x.lays(0));
        Check.due("28 keep() on DAY 999", 999, x.keep(0));
        Check.due("12 undo() on DAY 999", 9, x.undo());
        Check.due("29 back() to DAY 999", 999, x.back(0));
        Check.due("10 day() of DAY 999", STATE, x.day());
    }
}
