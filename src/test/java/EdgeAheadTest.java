/** Section 3 and promises 13 to 20 at their edges: how it goes, dates. */
public final class EdgeAheadTest {
    private static final int NONE = LastWord.NONE;
    private static final int BAD = LastWord.BAD;
    private static final int STATE = LastWord.STATE;
    private static final String QUIET = "w1 5 0 0 0 0 0;";
    /** A letter of 1 on 0 is answered by 0, 1 (on 1), 0, 2 (on 2), 0, 3 (on 3), 0, 4 (on 4), 0: none can go on longer. */
    private static final String LONGEST =
        "w9 5 9 9 9 9 9;w9 1 8 0 0 0 0;w9 2 0 8 0 0 0;w9 3 0 0 8 0 0;w9 4 0 0 0 8 0;";

    public static void main(String[] args) {
        inDaysAsDaysGoBy();
        inDaysOfWhatIsClosed();
        endsAtOnce();
        endsAsDaysGoBy();
        endsAtLast();
        endsNever();
        endsWhateverWasAsked();
        roundAtItsEdges();
        roundRefusedInOrder();
        lastAtItsEdges();
        lastRefusedInOrder();
        bindsNobodyAtItsEdges();
        keepsToTheDay();
        keepsOfSix();
        keepsInWhicheverOrder();
        keepsTheMostOfThree();
        keepsNotWhatIsLate();
        keepsOfNothing();
        lateFirstToTheDay();
        lateFirstOfSeveral();
        lateFirstNewly();
        lateFirstNever();
        peaceAtOnce();
        peaceOfSix();
        peaceOfTheLeast();
        Check.end();
    }

    // "IN n (0 .. 60) DAYS of a QUARREL: who wrote the latest LETTER; its SUBJECT; who OWES (NONE)."

    private static LastWord four() {
        LastWord x = Check.told(States.SIX);
        x.writes(0, 0);
        x.writes(0, 1);
        x.writes(3, 3);
        x.writes(5, 4);
        x.lays(3);
        return x;
    }

    private static void inDaysAsDaysGoBy() {
        int[] shown = {0, 1, 3};
        for (int q = 0; q < 4; q++) {
            LastWord ahead = four();
            LastWord x = four();
            for (int n = 0; n <= 60; n++) {
                for (int what = 0; what < 3; what++) {
                    Check.due("13 inDays(" + q + ", " + n + ", " + what + ")",
                        x.quarrel(q, shown[what]), ahead.inDays(q, n, what));
                }
                x.day();
            }
            Check.due("13 inDays(q, 61, 0)", BAD, ahead.inDays(q, 61, 0));
            Check.due("13 inDays(q, -1, 0)", BAD, ahead.inDays(q, -1, 0));
            Check.due("8 THE DAY is not changed", 0, ahead.now(0));
        }
    }

    private static void inDaysOfWhatIsClosed() {
        LastWord x = Check.told(QUIET);
        x.writes(0, 4);
        int[] want = {0, 4, NONE};
        for (int what = 0; what < 3; what++) {
            Check.due("13 inDays(0, 0, " + what + ")", want[what], x.inDays(0, 0, what));
            Check.due("13 inDays(0, 60, " + what + ")", want[what], x.inDays(0, 60, what));
        }
    }

    // "ENDS: in how many DAYS (0 .. 400) it is CLOSED; NONE."

    private static void endsAtOnce() {
        LastWord x = Check.told(QUIET + "w1 5 9 0 0 0 0;");
        x.writes(0, 1);
        x.writes(0, 0);
        x.writes(0, 0);
        Check.due("14 CLOSED", 0, x.ends(0));
        Check.due("14 in 1 DAY", 1, x.ends(1));
        Check.due("14 in 2 DAYS", 2, x.ends(2));
        x.day();
        Check.due("14 just CLOSED", 0, x.ends(1));
        Check.due("14 in 1 DAY", 1, x.ends(2));
        x.lays(1);
        Check.due("14 CLOSED by lays()", 0, x.ends(2));
    }

    private static void endsAsDaysGoBy() {
        LastWord x = four();
        for (int q = 0; q < 4; q++) {
            int ends = x.ends(q);
            LastWord y = four();
            Check.days(y, ends == NONE ? 120 : ends - 1);
            Check.due("14 OWED still", 1, y.quarrel(q, 3) != NONE ? 1 : 0);
            y.day();
            Check.due("14 CLOSED by then", ends == NONE ? 0 : 1, y.quarrel(q, 3) == NONE ? 1 : 0);
        }
    }

    /**
     * 0 has six letters in hand all the while and answers each five times, in 9 days. No quarrel was found that ends
     * later (a search for one came to 270 again and again), so none in 400 days or later.
     */
    private static void endsAtLast() {
        LastWord x = Check.told(LONGEST);
        for (int q = 0; q < 6; q++) {
            x.writes(1, 0);
        }
        for (int q = 0; q < 6; q++) {
            Check.due("14 ends(" + q + ")", 4 * 54 + 9 * (q + 1), x.ends(q));
        }
        Check.due("20 it ENDS as late as that", 0, x.peace(5));
        Check.days(x, 269);
        Check.due("14 in 1 DAY", 1, x.ends(5));
        Check.due("6 who OWES", 0, x.quarrel(5, 3));
        x.day();
        Check.due("14 just CLOSED", 0, x.ends(5));
        Check.due("8 all CLOSED", 63, x.now(2));
        Check.due("8 LETTERS", 60, x.now(3));
    }

    private static void endsNever() {
        LastWord x = Check.told("w1 5 1 0 0 0 0;w1 5 1 0 0 0 0;");
        x.writes(0, 0);
        Check.due("14 goes round", NONE, x.ends(0));
        x.day();
        Check.due("14 goes round", NONE, x.ends(0));
        x.lays(1);
        Check.due("14 the answer OWED is the last", 1, x.ends(0));
    }

    private static void endsWhateverWasAsked() {
        LastWord x = Check.told("w1 5 1 0 0 0 0;w1 5 1 9 0 0 0;");
        x.writes(0, 1);
        Check.due("15 on 0 it goes round", NONE, x.round(0, 0, 0));
        Check.due("14 on 1 it ENDS", 1, x.ends(0));
        Check.due("20 on 1 it ENDS", 0, x.peace(0));
        Check.due("15 on 1 it ENDS", 2, x.round(0, 1, 0));
        x.writes(0, 0);
        Check.due("14 on 0 it goes round", NONE, x.ends(1));
    }

    // "ROUND: how many LETTERS there are (its own too) till it is CLOSED: as many; NONE: it goes round; who has the
    // LAST WORD; NONE."

    private static void round(LastWord x, int w, int s, int letters, int who) {
        Check.due("15 round(" + w + ", " + s + ", 0)", letters, x.round(w, s, 0));
        Check.due("15 round(" + w + ", " + s + ", 1)", who, x.round(w, s, 1));
    }

    private static void roundAtItsEdges() {
        LastWord x = Check.told(LONGEST);
        round(x, 1, 0, 10, 0);
        round(x, 0, 0, 9, 0);
        round(x, 1, 4, 2, 0);
        round(x, 0, 4, 1, 0);
        x.lays(0);
        round(x, 1, 4, 1, 1);
        round(x, 2, 0, 5, 4);
        LastWord one = Check.told("w1 0 9 9 9 9 9;");
        round(one, 0, 0, 1, 0);
        round(one, 0, 4, 1, 0);
        LastWord two = Check.told("w1 5 1 0 0 0 9;w1 5 1 0 0 0 0;");
        round(two, 0, 0, NONE, NONE);
        round(two, 1, 0, NONE, NONE);
        round(two, 1, 4, 2, 0);
    }

    private static void roundRefusedInOrder() {
        LastWord x = Check.told(QUIET + QUIET);
        x.lays(1);
        Check.due("15 STATE", STATE, x.round(1, 0, 0));
        Check.due("15 STATE", STATE, x.round(1, 4, 1));
        Check.due("15 BAD ahead of STATE", BAD, x.round(1, 5, 0));
        Check.due("15 BAD ahead of STATE", BAD, x.round(1, -1, 0));
        Check.due("15 BAD ahead of STATE", BAD, x.round(1, 0, 2));
        Check.due("15 BAD ahead of STATE", BAD, x.round(1, 0, -1));
        Check.due("15 BAD", BAD, x.round(2, 0, 0));
        x.undo();
        Check.due("15 not any more", 1, x.round(1, 0, 0));
    }

    // "LAST of a WRITER: the lowest SUBJECT on which he would have it; NONE."

    private static void lastAtItsEdges() {
        LastWord x = Check.told("w1 5 0 0 0 0 0;w1 5 9 9 9 9 0;");
        Check.due("16 on 4 alone", 4, x.last(0));
        Check.due("16 on all: the lowest", 0, x.last(1));
        LastWord never = Check.told("w1 5 1 1 1 1 1;w1 5 1 1 1 1 1;");
        Check.due("16 all goes round", NONE, never.last(0));
        never.lays(0);
        Check.due("16 nobody else is left", 0, never.last(1));
        // on 0 he is answered by 1 on 1, and answers that on 1 himself, which means nobody: the last of three
        LastWord own = Check.told("w1 5 0 9 9 9 9;w1 1 9 0 8 8 8;");
        Check.due("15 LETTERS of it", 3, own.round(0, 0, 0));
        Check.due("16 by an answer of his own", 0, own.last(0));
    }

    private static void lastRefusedInOrder() {
        LastWord x = Check.told(QUIET);
        x.lays(0);
        Check.due("16 STATE", STATE, x.last(0));
        Check.due("16 BAD", BAD, x.last(1));
        Check.due("16 BAD", BAD, x.last(-1));
    }

    // "BINDS NOBODY of a WRITER: SUBJECTS (bits) on which a LETTER of his means nobody."

    private static void bindsNobodyAtItsEdges() {
        LastWord x = Check.told("w1 5 1 1 1 1 1;w1 5 1 0 0 0 0;w1 5 0 0 0 0 1;");
        Check.due("17 0 and 4 are others'", 2 + 4 + 8, x.bindsNobody(0));
        Check.due("17 none", 0, x.bindsNobody(1));
        x.lays(0);
        Check.due("17 4 is another's", 1 + 2 + 4 + 8, x.bindsNobody(1));
        Check.due("17 0 is another's", 2 + 4 + 8 + 16, x.bindsNobody(2));
        Check.due("17 one who LAID down may be asked of", 14, x.bindsNobody(0));
        x.lays(1);
        x.lays(2);
        Check.due("17 all LAID down", 31, x.bindsNobody(0));
        Check.due("17 the only one", 31, Check.told("w1 5 9 9 9 9 9;").bindsNobody(0));
    }

    // "KEEPS of a WRITER: how many of the answers he OWES can be printed in time (TERM DAYS behind the LETTER at the
    // latest) [..] a PEN's DAYS for each but WORK left for those begun"

    private static void keepsToTheDay() {
        for (int pen = 1; pen <= 9; pen++) {
            for (int term = 1; term <= 20; term++) {
                LastWord x = Check.told("t" + term + ";" + QUIET + "w" + pen + " 5 9 0 0 0 0;");
                x.writes(0, 0);
                x.writes(0, 0);
                x.writes(0, 0);
                Check.due("18 PEN " + pen + ", TERM " + term, Math.min(3, term / pen), x.keeps(1));
            }
        }
        LastWord x = Check.told("t9;" + QUIET + "w5 5 9 0 0 0 0;");
        x.writes(0, 0);
        x.day();
        x.writes(0, 0);
        Check.due("18 4 and 5 in 9 DAYS", 2, x.keeps(1));
        LastWord y = Check.told("t8;" + QUIET + "w5 5 9 0 0 0 0;");
        y.writes(0, 0);
        y.day();
        y.writes(0, 0);
        Check.due("18 4 and 5 in 8 DAYS", 1, y.keeps(1));
    }

    private static void keepsOfSix() {
        for (int term = 4; term <= 8; term++) {
            LastWord x = Check.told("t" + term + ";" + QUIET + "w1 5 9 0 0 0 0;");
            for (int q = 0; q < 6; q++) {
                x.writes(0, 0);
            }
            Check.due("18 six, TERM " + term, Math.min(6, term), x.keeps(1));
            x.day();
            Check.due("18 five, TERM " + term, Math.min(6, term) - 1, x.keeps(1));
        }
    }

    private static void keepsInWhicheverOrder() {
        // on DAY 8, QUARREL 0 is new to 2 and can't be in time (DAY 12), QUARREL 1 can: 2 left till DAY 13
        LastWord x = Check.told("t12;" + QUIET + "w9 5 9 0 0 0 0;w9 5 8 9 0 0 0;");
        x.writes(0, 0);
        x.day();
        x.writes(0, 1);
        Check.days(x, 7);
        x.lays(1);
        Check.due("6 WORK of 0", 9, x.quarrel(0, 4));
        Check.due("6 WORK of 1", 2, x.quarrel(1, 4));
        Check.due("18 he keeps the later one", 1, x.keeps(2));
        x.day();
        Check.due("18 with all but 4 DAYS gone", 1, x.keeps(2));
        Check.days(x, 2);
        Check.due("18 with all but 2 DAYS gone", 1, x.keeps(2));
        x.day();
        Check.due("18 too late for both", 0, x.keeps(2));
    }

    private static void keepsTheMostOfThree() {
        // on DAY 3, 1 has 1 left of QUARREL 0 till DAY 7, 4 of 1 till DAY 8, 4 of 2 till DAY 7: 0 and 1, or 2 alone
        LastWord x = Check.told("t7;" + QUIET + "w4 5 9 0 9 8 0;w1 2 0 9 0 0 0;w9 5 0 0 0 9 0;");
        x.writes(0, 0);
        x.writes(0, 1);
        x.writes(0, 3);
        Check.days(x, 3);
        x.lays(3);
        int[] printed = {0, 1, 0};
        int[] work = {1, 4, 4};
        for (int q = 0; q < 3; q++) {
            Check.due("6 who OWES " + q, 1, x.quarrel(q, 3));
            Check.due("6 the DAY of " + q, printed[q], x.quarrel(q, 2));
            Check.due("6 WORK of " + q, work[q], x.quarrel(q, 4));
        }
        Check.due("18 two of three", 2, x.keeps(1));
    }

    private static void keepsNotWhatIsLate() {
        LastWord x = Check.told("t2;" + QUIET + "w9 5 9 0 0 0 0;w1 5 8 0 0 0 0;");
        x.writes(0, 0);
        Check.days(x, 2);
        x.lays(1);
        x.writes(0, 0);
        Check.due("6 LATE", 1, x.quarrel(0, 5));
        Check.due("5 OWED by 2", 2, x.writer(2, 8));
        Check.due("18 there is time for both, but for one it is too late", 1, x.keeps(2));
    }

    private static void keepsOfNothing() {
        LastWord x = Check.told("t1;" + QUIET + "w2 5 9 0 0 0 0;");
        Check.due("18 no QUARRELS", 0, x.keeps(0));
        x.writes(0, 0);
        Check.due("18 OWES none", 0, x.keeps(0));
        Check.due("18 no time for any", 0, x.keeps(1));
        x.day();
        Check.due("18 LATE already", 0, x.keeps(1));
        x.lays(1);
        Check.due("18 who LAID down", 0, x.keeps(1));
    }

    // "LATE FIRST: in how many DAYS (1 .. 200) some QUARREL is newly LATE; who OWES it (of several the lowest QUARREL);
    // NONE."

    private static void lateFirst(String why, LastWord x, int days, int who) {
        Check.due("19 lateFirst(0) " + why, days, x.lateFirst(0));
        Check.due("19 lateFirst(1) " + why, who, x.lateFirst(1));
    }

    private static void lateFirstToTheDay() {
        LastWord soon = Check.told("t1;" + QUIET + "w2 5 9 0 0 0 0;");
        soon.writes(0, 0);
        lateFirst("in 1 DAY", soon, 1, 1);
        LastWord kept = Check.told("t2;" + QUIET + "w2 5 9 0 0 0 0;");
        kept.writes(0, 0);
        lateFirst("printed on the last DAY", kept, NONE, NONE);
        kept.writes(0, 0);
        lateFirst("of the second", kept, 2, 1);
        LastWord x = Check.told("t20;" + QUIET + "w9 5 9 0 0 0 0;");
        x.writes(0, 0);
        x.writes(0, 0);
        lateFirst("18 DAYS of 20", x, NONE, NONE);
        x.writes(0, 0);
        lateFirst("27 DAYS of 20", x, 20, 1);
        Check.days(x, 19);
        lateFirst("the DAY ahead", x, 1, 1);
        x.day();
        lateFirst("LATE already", x, NONE, NONE);
    }

    private static void lateFirstOfSeveral() {
        LastWord x = Check.told("t3;" + QUIET + "w9 5 9 0 0 0 0;w9 5 0 9 0 0 0;");
        x.writes(0, 1);
        x.writes(0, 0);
        lateFirst("of the lowest QUARREL", x, 3, 2);
        LastWord y = Check.told("t3;" + QUIET + "w9 5 9 0 0 0 0;w9 5 0 9 0 0 0;");
        y.writes(0, 0);
        y.writes(0, 1);
        lateFirst("of the lowest QUARREL", y, 3, 1);
        LastWord later = Check.told("t3;" + QUIET + "w9 5 9 0 0 0 0;w2 1 0 9 8 0 0;");
        later.writes(0, 2);
        later.day();
        later.writes(0, 0);
        lateFirst("the first is answered in time", later, 3, 1);
    }

    private static void lateFirstNewly() {
        LastWord x = Check.told("t2;" + QUIET + "w9 5 9 0 0 0 0;w4 5 8 0 0 0 0;");
        x.writes(0, 0);
        x.day();
        x.writes(0, 0);
        lateFirst("of two", x, 1, 1);
        x.day();
        lateFirst("the other one", x, 1, 1);
        x.lays(1);
        lateFirst("who OWES it then", x, 1, 2);
        x.day();
        // 2 answers both, so late that nothing else is newly LATE, and nobody answers him
        lateFirst("none newly", x, NONE, NONE);
    }

    private static void lateFirstNever() {
        lateFirst("of no WRITERS", new LastWord(), NONE, NONE);
        LastWord x = Check.told("t1;w9 5 9 0 0 0 0;w9 5 9 0 0 0 0;");
        lateFirst("of no QUARRELS", x, NONE, NONE);
        x.writes(0, 4);
        lateFirst("of what is CLOSED", x, NONE, NONE);
        x.writes(0, 0);
        x.day();
        x.lays(1);
        lateFirst("CLOSED, though LATE", x, NONE, NONE);
        Check.due("6 LATE", 1, x.quarrel(1, 5));
    }

    // "PEACE of a QUARREL: the fewest WRITERS (bits; none who LAID down; of as few the least) who would have to lay down
    // the pen NOW so that it ENDS"

    private static void peaceAtOnce() {
        LastWord x = Check.told("w1 5 9 0 0 0 0;w1 5 9 0 0 0 0;");
        x.writes(0, 1);
        Check.due("20 CLOSED", 0, x.peace(0));
        x.writes(0, 0);
        Check.due("20 one of the two: the least", 1, x.peace(1));
        x.lays(0);
        Check.due("20 it ENDS", 0, x.peace(1));
        x.lays(1);
        Check.due("20 all LAID down", 0, x.peace(1));
    }

    private static void peaceOfSix() {
        LastWord x = Check.told("w1 5 9 0 0 0 0;".repeat(6));
        x.writes(0, 0);
        for (int laid = 0; laid < 5; laid++) {
            // all but 5, and none who LAID down
            Check.due("20 with " + laid + " LAID down", 31 - ((1 << laid) - 1), x.peace(0));
            x.lays(laid);
        }
        Check.due("20 with all but 5", 0, x.peace(0));
    }

    private static void peaceOfTheLeast() {
        // 4 and 5 go round on 0 whoever else is there: one of them has to go, and 4 is the least
        LastWord x = Check.told("w1 5 0 0 0 0 0;".repeat(4) + "w1 5 9 0 0 0 0;w1 5 9 0 0 0 0;");
        x.writes(0, 0);
        Check.due("20 the least of as few", 16, x.peace(0));
        x.lays(4);
        Check.due("20 none has to", 0, x.peace(0));
        // by 5 alone (32) it ENDS, by fewer bits too only if 0 and 1 both go (3): the fewest come ahead of the least
        LastWord y = Check.told("w1 4 9 0 0 0 0;w1 4 8 0 0 0 0;w1 5 0 0 0 0 0;w1 5 0 0 0 0 0;w1 5 0 0 0 0 0;w1 0 0 0 0 0 9;");
        y.writes(2, 0);
        Check.due("20 the fewest", 32, y.peace(0));
        y.lays(0);
        Check.due("20 now one is enough: the least", 2, y.peace(0));
    }
}
