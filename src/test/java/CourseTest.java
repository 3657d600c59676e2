/** Promises 13 to 20: how it goes, dates. */
public final class CourseTest {
    private static final int NONE = LastWord.NONE;
    private static final int BAD = LastWord.BAD;
    private static final int STATE = LastWord.STATE;
    /** A quarrel on 0 goes 0, 1 (on 1), 2 (on 2), and ends; 3 and 4 go round on 4. */
    private static final String PAPER =
        "t4;w2 5 0 0 0 0 0;w3 1 9 0 0 0 0;w4 2 0 9 0 0 0;w1 5 0 0 0 0 9;w6 5 0 0 0 0 9;";

    public static void main(String[] args) {
        inDays();
        ends();
        round();
        last();
        bindsNobody();
        keeps();
        keepsLeavesOne();
        lateFirst();
        lateFirstOfSeveral();
        lateFirstAtLast();
        peace();
        peaceOfSeveral();
        nothingIsChanged();
        Check.end();
    }

    private static LastWord begun() {
        LastWord x = Check.told(PAPER);
        x.writes(0, 0);
        x.writes(0, 4);
        x.writes(0, 3);
        return x;
    }

    private static void inDays(LastWord x, int q, int n, int... want) {
        for (int what = 0; what < 3; what++) {
            Check.due("13 inDays(" + q + ", " + n + ", " + what + ")", want[what], x.inDays(q, n, what));
        }
    }

    private static void inDays() {
        LastWord x = begun();
        inDays(x, 0, 0, 0, 0, 1);
        inDays(x, 0, 2, 0, 0, 1);
        inDays(x, 0, 3, 1, 1, 2);
        inDays(x, 0, 6, 1, 1, 2);
        inDays(x, 0, 7, 2, 2, NONE);
        inDays(x, 0, 60, 2, 2, NONE);
        inDays(x, 1, 1, 3, 4, 4);
        inDays(x, 1, 7, 4, 4, 3);
        inDays(x, 1, 60, 3, 4, 4);
        inDays(x, 2, 60, 0, 3, NONE);
        Check.due("13 inDays(0, 61, 0)", BAD, x.inDays(0, 61, 0));
        Check.due("13 inDays(0, -1, 0)", BAD, x.inDays(0, -1, 0));
        Check.due("13 inDays(3, 0, 0)", BAD, x.inDays(3, 0, 0));
        Check.due("13 inDays(-1, 0, 0)", BAD, x.inDays(-1, 0, 0));
        Check.due("13 inDays(0, 0, 3)", BAD, x.inDays(0, 0, 3));
        Check.due("13 inDays(0, 0, -1)", BAD, x.inDays(0, 0, -1));
    }

    private static void ends() {
        LastWord x = begun();
        Check.due("14 ends(0)", 7, x.ends(0));
        Check.due("14 ends(1) goes round", NONE, x.ends(1));
        Check.due("14 ends(2) is CLOSED", 0, x.ends(2));
        x.writes(0, 0);
        Check.due("14 ends(3) waits for the first", 11, x.ends(3));
        Check.days(x, 2);
        Check.due("14 ends(0) in 2 DAYS less", 5, x.ends(0));
        x.lays(2);
        Check.due("14 ends(0) without 2", 1, x.ends(0));
        x.lays(4);
        Check.due("14 ends(1) without 4", 0, x.ends(1));
        Check.due("14 ends(4)", BAD, x.ends(4));
        Check.due("14 ends(-1)", BAD, x.ends(-1));
    }

    private static void round(LastWord x, int w, int s, int letters, int who) {
        Check.due("15 round(" + w + ", " + s + ", 0)", letters, x.round(w, s, 0));
        Check.due("15 round(" + w + ", " + s + ", 1)", who, x.round(w, s, 1));
    }

    private static void round() {
        LastWord x = begun();
        round(x, 0, 0, 3, 2);
        round(x, 0, 1, 2, 2);
        round(x, 0, 3, 1, 0);
        round(x, 1, 0, 1, 1);
        round(x, 0, 4, NONE, NONE);
        round(x, 3, 4, NONE, NONE);
        x.lays(2);
        round(x, 0, 0, 2, 1);
        x.lays(3);
        round(x, 0, 4, 2, 4);
        Check.due("15 round(2, 0, 0)", STATE, x.round(2, 0, 0));
        Check.due("15 round(2, 0, 2)", BAD, x.round(2, 0, 2));
        Check.due("15 round(2, 5, 0)", BAD, x.round(2, 5, 0));
        Check.due("15 round(5, 0, 0)", BAD, x.round(5, 0, 0));
        Check.due("15 round(-1, 0, 0)", BAD, x.round(-1, 0, 0));
        Check.due("15 round(0, -1, 0)", BAD, x.round(0, -1, 0));
        Check.due("15 round(0, 0, -1)", BAD, x.round(0, 0, -1));
        // 0 answers on each SUBJECT once, since 1 .. 4 each lead on to the next one
        LastWord longest = Check.told("w1 5 9 9 9 9 9;w1 1 8 0 0 0 0;w1 2 0 8 0 0 0;w1 3 0 0 8 0 0;w1 4 0 0 0 8 0;");
        round(longest, 1, 0, 10, 0);
        round(longest, 2, 0, 10, 0);
        round(longest, 0, 0, 9, 0);
    }

    private static void last() {
        LastWord x = begun();
        Check.due("16 last(0)", 2, x.last(0));
        Check.due("16 last(1)", 0, x.last(1));
        Check.due("16 last(3)", 2, x.last(3));
        LastWord all = Check.told("w1 5 0 0 0 0 0;w1 5 9 9 9 9 9;w1 4 0 0 0 0 0;");
        Check.due("16 never", NONE, all.last(0));
        Check.due("16 always", 0, all.last(1));
        // his own answer, on his HOBBY, to an answer is the last word too
        LastWord own = Check.told("w1 1 1 0 9 9 9;w1 5 9 9 0 0 0;w1 5 0 8 9 9 9;");
        Check.due("16 last(0)", NONE, own.last(0));
        own.lays(2);
        Check.due("16 last(0) without 2", 2, own.last(0));
        Check.due("16 last(2) who LAID down", STATE, own.last(2));
        Check.due("16 last(3)", BAD, own.last(3));
        Check.due("16 last(-1)", BAD, own.last(-1));
    }

    private static void bindsNobody() {
        LastWord x = begun();
        Check.due("17 bindsNobody(0)", 12, x.bindsNobody(0));
        Check.due("17 bindsNobody(1)", 13, x.bindsNobody(1));
        Check.due("17 bindsNobody(2)", 14, x.bindsNobody(2));
        x.lays(3);
        Check.due("17 bindsNobody(4) without 3", 28, x.bindsNobody(4));
        Check.due("17 bindsNobody(3) who LAID down", 12, x.bindsNobody(3));
        Check.due("17 bindsNobody(5)", BAD, x.bindsNobody(5));
        Check.due("17 bindsNobody(-1)", BAD, x.bindsNobody(-1));
    }

    private static void keeps() {
        LastWord x = Check.told("t6;w1 5 0 0 0 0 0;w3 5 9 0 0 0 0;");
        Check.due("18 keeps(1) of nothing", 0, x.keeps(1));
        x.writes(0, 0);
        x.writes(0, 0);
        x.writes(0, 0);
        Check.due("18 keeps(1)", 2, x.keeps(1));
        Check.due("18 keeps(0)", 0, x.keeps(0));
        x.day();
        x.writes(0, 0);
        Check.due("18 keeps(1) with WORK left", 2, x.keeps(1));
        Check.days(x, 3);
        Check.due("18 OWES", 3, x.writer(1, 8));
        x.writes(0, 0);
        Check.due("18 keeps(1) of DAY 4", 2, x.keeps(1));
        Check.days(x, 2);
        Check.due("18 keeps(1) of DAY 6", 1, x.keeps(1));
        Check.due("18 keeps(2)", BAD, x.keeps(2));
        Check.due("18 keeps(-1)", BAD, x.keeps(-1));
    }

    private static void keepsLeavesOne() {
        LastWord slow = Check.told("t8;w1 5 0 0 0 0 0;w9 5 9 0 0 0 0;");
        slow.writes(0, 0);
        Check.due("18 no time for one", 0, slow.keeps(1));
        LastWord x = Check.told("t5;w1 5 0 0 0 0 0;w9 5 9 0 0 0 0;w3 5 8 0 0 0 0;");
        x.writes(0, 0);
        Check.days(x, 3);
        x.writes(0, 0);
        x.lays(1);
        Check.due("18 what can't be in time is left for what can", 1, x.keeps(2));
        Check.due("18 keeps(1) who LAID down", 0, x.keeps(1));
    }

    private static void lateFirst() {
        LastWord x = begun();
        Check.due("19 lateFirst(0)", 5, x.lateFirst(0));
        Check.due("19 lateFirst(1)", 4, x.lateFirst(1));
        Check.days(x, 4);
        Check.due("19 lateFirst(0) in 4 DAYS less", 1, x.lateFirst(0));
        x.day();
        Check.due("19 LATE already", 1, x.quarrel(1, 5));
        Check.due("19 the next time it is LATE", 7, x.lateFirst(0));
        Check.due("19 lateFirst(2)", BAD, x.lateFirst(2));
        Check.due("19 lateFirst(-1)", BAD, x.lateFirst(-1));
        LastWord never = Check.told("t2;w2 5 9 0 0 0 0;w2 5 9 0 0 0 0;");
        never.writes(0, 0);
        Check.due("19 always in time", NONE, never.lateFirst(0));
        Check.due("19 nobody", NONE, never.lateFirst(1));
    }

    private static void lateFirstOfSeveral() {
        LastWord x = Check.told("t2;w9 5 9 0 0 0 0;w9 5 9 0 0 0 0;");
        x.writes(0, 0);
        x.writes(1, 0);
        Check.due("19 DAYS", 2, x.lateFirst(0));
        Check.due("19 of the lowest QUARREL", 1, x.lateFirst(1));
    }

    private static void lateFirstAtLast() {
        LastWord x = Check.told("t19;w3 5 8 9 4 3 6;w8 0 7 0 0 5 0;w7 3 5 0 0 0 0;w5 4 0 9 1 8 3;");
        int[][] letters = {{3, 0}, {1, 2}, {3, 0}, {3, 4}, {2, 0}, {3, 1}};
        for (int[] letter : letters) {
            x.writes(letter[0], letter[1]);
        }
        x.day();
        Check.due("19 in 201 DAYS", NONE, x.lateFirst(0));
        Check.due("19 in 201 DAYS", NONE, x.lateFirst(1));
        x.day();
        Check.due("19 in 200 DAYS", 200, x.lateFirst(0));
        int who = x.lateFirst(1);
        Check.days(x, 199);
        int late = 0;
        for (int w = 0; w < 4; w++) {
            late += x.writer(w, 9);
        }
        Check.due("19 nobody LATE in 199 DAYS", 0, late);
        x.day();
        Check.due("19 he is LATE in 200 DAYS", 1, x.writer(who, 9));
    }

    private static void peace() {
        LastWord x = begun();
        Check.due("20 peace(0) ENDS", 0, x.peace(0));
        Check.due("20 peace(1)", 8, x.peace(1));
        Check.due("20 peace(2) is CLOSED", 0, x.peace(2));
        x.lays(3);
        Check.due("20 peace(1) without 3", 0, x.peace(1));
        Check.due("20 peace(3)", BAD, x.peace(3));
        Check.due("20 peace(-1)", BAD, x.peace(-1));
    }

    private static void peaceOfSeveral() {
        LastWord x = Check.told("w1 5 9 0 0 0 0;w1 5 9 0 0 0 0;w1 5 9 0 0 0 0;w1 5 9 0 0 0 0;");
        x.writes(3, 0);
        Check.due("20 all but one", 7, x.peace(0));
        x.lays(0);
        Check.due("20 none who LAID down", 6, x.peace(0));
        // 0 and 1 lead round by way of 2 alone: one is fewer than the two of lower number
        LastWord one = Check.told("w1 2 9 0 0 0 0;w1 2 8 0 0 0 0;w1 0 0 0 9 0 0;");
        one.writes(2, 0);
        Check.due("20 the fewest", 4, one.peace(0));
    }

    private static void nothingIsChanged() {
        LastWord x = begun();
        Check.days(x, 2);
        x.inDays(0, 60, 0);
        x.ends(1);
        x.round(0, 0, 0);
        x.last(0);
        x.keeps(1);
        x.lateFirst(0);
        x.peace(1);
        Check.due("13 THE DAY", 2, x.now(0));
        Check.due("13 LETTERS", 4, x.now(3));
        Check.due("13 what may be UNDONE", 5, x.now(4));
        Check.due("13 WORK", 1, x.quarrel(0, 4));
        Check.due("20 nobody LAID down", 0, x.writer(3, 7));
        Check.due("19 LATE", 0, x.writer(4, 9));
    }
}
