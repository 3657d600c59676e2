/** Section 3 and promises 21 to 26 at their edges: what was found, odds. */
public final class EdgeFoundTest {
    private static final int NONE = LastWord.NONE;
    private static final int BAD = LastWord.BAD;
    private static final int STATE = LastWord.STATE;
    private static final int FULL = LastWord.FULL;
    private static final String QUIET = "w1 5 0 0 0 0 0;";

    public static void main(String[] args) {
        foundAtMost();
        foundRefusedInOrder();
        foundOfNobody();
        forgetAtItsEdges();
        mayBeAtItsEdges();
        mayBeOfFive();
        mayBeAsIfNobodyLaid();
        oddsOfOne();
        oddsOfSix();
        oddsOfThoseWhoLaid();
        oddsRefusedInOrder();
        mostAtItsEdges();
        titlesAtTheirEdges();
        Check.end();
    }

    // "FOUND (5 at most): a LETTER of a WRITER on a SUBJECT means a WRITER (or nobody: -1)."

    private static void foundAtMost() {
        LastWord x = Check.told(QUIET + QUIET);
        Check.due("30 nothing FOUND", 0, x.count(2));
        for (int many = 1; many <= 5; many++) {
            Check.due("21 found()", many, x.found(0, many - 1, 1));
            Check.due("30 FOUND", many, x.count(2));
        }
        Check.due("21 a sixth", FULL, x.found(0, 0, 1));
        Check.due("21 a sixth, though known", FULL, x.found(0, 4, 1));
        Check.due("21 a sixth, of nobody", FULL, x.found(1, 4, -1));
        Check.due("30 FOUND stays", 5, x.count(2));
    }

    private static void foundRefusedInOrder() {
        LastWord x = Check.told(QUIET + QUIET);
        for (int i = 0; i < 5; i++) {
            x.found(0, 0, -1);
        }
        Check.due("21 FULL", FULL, x.found(0, 0, -1));
        Check.due("21 BAD ahead of FULL", BAD, x.found(2, 0, -1));
        Check.due("21 BAD ahead of FULL", BAD, x.found(-1, 0, -1));
        Check.due("21 BAD ahead of FULL", BAD, x.found(0, 5, -1));
        Check.due("21 BAD ahead of FULL", BAD, x.found(0, -1, -1));
        Check.due("21 BAD ahead of FULL", BAD, x.found(0, 0, -2));
        Check.due("21 BAD ahead of FULL", BAD, x.found(0, 0, 2));
        Check.due("21 BAD ahead of FULL", BAD, x.found(0, 0, NONE));
    }

    private static void foundOfNobody() {
        LastWord x = Check.told("w1 5 0 0 0 0 3;w1 5 0 0 0 0 0;w1 5 0 0 0 0 0;");
        Check.due("21 found(0, 4, -1)", 1, x.found(0, 4, -1));
        Check.due("23 it is so", 1, x.mayBe(1, 4));
        Check.due("23 it is so", 1, x.mayBe(2, 4));
        Check.due("23 his own NEAR is free", 1023, x.mayBe(0, 4));
        Check.due("21 found(1, 4, -1)", 2, x.found(1, 4, -1));
        Check.due("23 he must not be NEAR", 1, x.mayBe(0, 4));
        Check.due("23 what is so for no NEAR of another", 0, x.mayBe(1, 4));
    }

    private static void forgetAtItsEdges() {
        LastWord x = Check.told(QUIET + QUIET);
        Check.due("22 forget() of nothing", 0, x.forget());
        for (int i = 0; i < 6; i++) {
            x.found(0, 0, 1);
        }
        Check.due("22 forget() of five", 5, x.forget());
        Check.due("22 forget() again", 0, x.forget());
        Check.due("23 all may be", 1023, x.mayBe(1, 0));
        Check.due("21 found() then", 1, x.found(0, 0, 1));
        Check.due("23 only this one counts", 1022, x.mayBe(1, 0));
    }

    // "MAY BE of a WRITER, a SUBJECT: NEAR (0 .. 9, as bits) by which all that was FOUND is so"

    private static void mayBeAtItsEdges() {
        LastWord x = Check.told("w1 5 0 9 0 0 0;w1 5 9 9 0 0 0;w1 5 9 0 1 0 0;");
        x.found(2, 0, 0);
        Check.due("23 as NEAR as 9, and the lower: 9 alone", 512, x.mayBe(0, 0));
        x.forget();
        x.found(0, 1, 2);
        Check.due("23 nearer than 9: none", 0, x.mayBe(2, 1));
        Check.due("23 1 and 2 are as NEAR as 0: none", 0, x.mayBe(1, 0));
        x.forget();
        x.found(0, 2, 2);
        Check.due("23 1 at least", 1022, x.mayBe(2, 2));
        Check.due("23 1 must not be as NEAR as 1, being lower", 1, x.mayBe(1, 2));
        x.forget();
        x.found(0, 0, 1);
        Check.due("23 the lower of two by 9", 512, x.mayBe(1, 0));
        Check.due("23 the higher may be as NEAR", 1023, x.mayBe(2, 0));
        x.forget();
        x.found(0, 0, 0);
        Check.due("23 nobody is MEANT by his own LETTER", 0, x.mayBe(0, 0));
        Check.due("23 nobody is MEANT by his own LETTER", 0, x.mayBe(1, 4));
    }

    private static void mayBeOfFive() {
        LastWord x = Check.told("w1 5 0 0 0 0 0;w1 5 2 2 2 2 0;w1 5 0 0 0 0 0;w1 5 7 7 7 7 0;");
        for (int s = 0; s < 4; s++) {
            x.found(0, s, 3);
        }
        Check.due("23 of four", 255 - 128, x.mayBe(2, 0));
        x.found(3, 0, 2);
        Check.due("23 the fifth counts too: 3 .. 6", 8 + 16 + 32 + 64, x.mayBe(2, 0));
        Check.due("23 no NEAR to 3 makes the fifth so", 0, x.mayBe(2, 3));
        x.found(0, 4, 3);
        Check.due("23 a sixth does not count", 8 + 16 + 32 + 64, x.mayBe(2, 0));
    }

    // "(as if nobody had LAID down, all else as it is)"

    private static void mayBeAsIfNobodyLaid() {
        LastWord x = Check.told("w1 5 0 0 0 0 0;w1 5 5 0 0 0 0;w1 5 4 0 0 0 0;");
        x.found(0, 0, 1);
        Check.due("23 as NEAR as 4", 1024 - 16, x.mayBe(1, 0));
        x.lays(1);
        Check.due("23 though he LAID down", 1024 - 16, x.mayBe(1, 0));
        x.lays(2);
        Check.due("23 though the other LAID down", 1024 - 16, x.mayBe(1, 0));
        Check.due("5 NEAR is not changed", 5, x.writer(1, 2));
        Check.due("7 nobody is MEANT NOW", NONE, x.meant(0, 0));
    }

    // "ODDS of a WRITER, a SUBJECT by p (0 .. 10): each other one who has not LAID down is away for good by p of 10, for
    // himself", "in least terms"

    private static void odds(LastWord x, int w, int s, int p, int upper, int lower) {
        String call = "24 odds(" + w + ", " + s + ", " + p + ", ";
        Check.due(call + "0)", upper, x.odds(w, s, p, 0));
        Check.due(call + "1)", lower, x.odds(w, s, p, 1));
    }

    private static void oddsOfOne() {
        LastWord x = Check.told("w1 0 9 9 9 9 9;");
        for (int p = 0; p <= 10; p++) {
            odds(x, 0, 0, p, 1, 1);
            odds(x, 0, 4, p, 1, 1);
        }
    }

    private static void oddsOfSix() {
        LastWord x = Check.told("w1 5 1 0 0 0 0;".repeat(6));
        // two who are there go round: all five others have to be away
        int[] upper = {0, 1, 1, 243, 32, 1, 243, 16807, 1024, 59049, 1};
        int[] lower = {1, 100000, 3125, 100000, 3125, 32, 3125, 100000, 3125, 100000, 1};
        for (int p = 0; p <= 10; p++) {
            odds(x, 0, 0, p, upper[p], lower[p]);
            odds(x, 5, 0, p, upper[p], lower[p]);
            odds(x, 5, 1, p, 1, 1);
        }
        // answered by the lowest who is there, who has the LAST WORD then: again all have to be away
        LastWord y = Check.told(QUIET + "w1 1 1 0 0 0 0;".repeat(5));
        odds(y, 0, 0, 5, 1, 32);
        odds(y, 5, 0, 5, 1, 16);
    }

    private static void oddsOfThoseWhoLaid() {
        LastWord x = Check.told("w1 5 1 0 0 0 0;".repeat(6));
        int lower = 100000;
        for (int laid = 0; laid < 5; laid++) {
            odds(x, 5, 0, 1, 1, lower);
            x.lays(laid);
            lower /= 10;
        }
        odds(x, 5, 0, 1, 1, 1);
        odds(x, 5, 0, 0, 1, 1);
    }

    private static void oddsRefusedInOrder() {
        LastWord x = Check.told(QUIET + QUIET);
        x.lays(1);
        Check.due("24 STATE", STATE, x.odds(1, 0, 0, 0));
        Check.due("24 STATE", STATE, x.odds(1, 4, 10, 1));
        Check.due("24 BAD ahead of STATE", BAD, x.odds(1, 5, 0, 0));
        Check.due("24 BAD ahead of STATE", BAD, x.odds(1, -1, 0, 0));
        Check.due("24 BAD ahead of STATE", BAD, x.odds(1, 0, 11, 0));
        Check.due("24 BAD ahead of STATE", BAD, x.odds(1, 0, -1, 0));
        Check.due("24 BAD ahead of STATE", BAD, x.odds(1, 0, 0, 2));
        Check.due("24 BAD ahead of STATE", BAD, x.odds(1, 0, 0, -1));
        Check.due("24 BAD", BAD, x.odds(2, 0, 0, 0));
    }

    // "MOST: who has most LAST WORDS in QUARRELS, of several the lowest; NONE: nobody has any."

    private static void mostAtItsEdges() {
        Check.due("25 no WRITERS", NONE, new LastWord().most());
        LastWord x = Check.told("w1 5 0 0 0 0 0;w9 5 9 0 0 0 0;w1 5 0 0 0 0 0;");
        Check.due("25 no QUARRELS", NONE, x.most());
        x.writes(0, 0);
        Check.due("25 none CLOSED", NONE, x.most());
        x.writes(2, 1);
        Check.due("25 one", 2, x.most());
        x.writes(2, 1);
        x.writes(0, 1);
        Check.due("25 two of three", 2, x.most());
        x.writes(0, 1);
        Check.due("25 of two with two the lowest", 0, x.most());
        x.writes(2, 2);
        Check.due("25 three of five", 2, x.most());
        Check.due("8 CLOSED", 62, x.now(2));
        Check.days(x, 9);
        Check.due("8 all CLOSED", 63, x.now(2));
        Check.due("25 three of six", 2, x.most());
        LastWord six = Check.told(QUIET.repeat(6));
        for (int w = 5; w >= 0; w--) {
            six.writes(w, 4);
            Check.due("25 all have one: the lowest", w, six.most());
        }
    }

    // "TITLES of two WRITERS (unlike): on how many SUBJECTS they are as NEAR."

    private static void titlesAtTheirEdges() {
        LastWord x = Check.told("w1 0 0 1 2 3 4;w9 5 0 1 2 3 4;w1 0 9 9 9 9 9;w1 0 0 1 2 3 9;");
        Check.due("26 on all", 5, x.titles(0, 1));
        Check.due("26 on all, 0 among them", 5, x.titles(1, 0));
        Check.due("26 on none", 0, x.titles(0, 2));
        Check.due("26 on all but 4", 4, x.titles(0, 3));
        Check.due("26 on 4 alone", 1, x.titles(3, 2));
        x.lays(0);
        Check.due("26 of one who LAID down", 5, x.titles(0, 1));
        for (int w = 0; w < 4; w++) {
            Check.due("26 alike", BAD, x.titles(w, w));
        }
        Check.due("26 alike, and no such", BAD, x.titles(4, 4));
        Check.due("26 alike, and no such", BAD, x.titles(-1, -1));
        Check.due("26 the only one", BAD, Check.told(QUIET).titles(0, 0));
        Check.due("26 no other", BAD, Check.told(QUIET).titles(0, 1));
    }
}
