/** Promises 21 to 26: what was found, odds. */
public final class FoundTest {
    private static final int NONE = LastWord.NONE;
    private static final int BAD = LastWord.BAD;

    public static void main(String[] args) {
        found();
        forget();
        mayBe();
        mayBeNothing();
        odds();
        oddsOfMany();
        most();
        titles();
        Check.end();
    }

    private static LastWord three() {
        return Check.told("w1 5 5 0 0 0 0;w1 5 3 0 0 0 0;w1 5 5 0 0 0 7;");
    }

    private static void found() {
        LastWord x = three();
        Check.due("21 found(0, 0, 2)", 1, x.found(0, 0, 2));
        Check.due("21 found(0, 1, -1)", 2, x.found(0, 1, -1));
        Check.due("21 found(0, 0, -2)", BAD, x.found(0, 0, -2));
        Check.due("21 found(0, 0, -9)", BAD, x.found(0, 0, NONE));
        Check.due("21 found(0, 0, 3)", BAD, x.found(0, 0, 3));
        Check.due("21 found(3, 0, 0)", BAD, x.found(3, 0, 0));
        Check.due("21 found(-1, 0, 0)", BAD, x.found(-1, 0, 0));
        Check.due("21 found(0, 5, 0)", BAD, x.found(0, 5, 0));
        Check.due("21 found(0, -1, 0)", BAD, x.found(0, -1, 0));
        Check.due("21 the same again", 3, x.found(0, 0, 2));
        Check.due("21 by one who LAID down", 0, x.lays(1));
        Check.due("21 found(1, 0, 0)", 4, x.found(1, 0, 0));
        Check.due("21 found(1, 0, 1)", 5, x.found(1, 0, 1));
        Check.due("21 a sixth", LastWord.FULL, x.found(0, 0, 2));
        Check.due("21 a sixth that is BAD", BAD, x.found(0, 0, 3));
        Check.due("21 count(2)", 5, x.count(2));
    }

    private static void forget() {
        LastWord x = three();
        Check.due("22 forget() of nothing", 0, x.forget());
        x.found(0, 0, 1);
        x.found(0, 0, 0);
        Check.due("22 nothing may be", 0, x.mayBe(1, 0));
        Check.due("22 forget()", 2, x.forget());
        Check.due("22 count(2)", 0, x.count(2));
        Check.due("22 all may be", 1023, x.mayBe(1, 0));
        Check.due("22 found() again", 1, x.found(0, 0, 1));
    }

    private static void mayBe() {
        LastWord x = three();
        Check.due("23 nothing FOUND", 1023, x.mayBe(0, 0));
        x.found(1, 0, 0);
        Check.due("23 as NEAR is enough for the lower", 1023 - 31, x.mayBe(0, 0));
        Check.due("23 as NEAR is not enough for the higher", 63, x.mayBe(2, 0));
        Check.due("23 his own NEAR does not count", 1023, x.mayBe(1, 0));
        Check.due("23 another SUBJECT", 1023, x.mayBe(0, 4));
        x.found(0, 0, 2);
        Check.due("23 both are so", 4 + 2 + 1 + 8 + 16, x.mayBe(1, 0));
        Check.due("23 both are so", 32 + 16, x.mayBe(2, 0));
        x.lays(2);
        Check.due("23 as if nobody had LAID down", 48, x.mayBe(2, 0));
        Check.due("23 NEAR is as it was", 5, x.writer(2, 2));
        Check.due("23 mayBe(3, 0)", BAD, x.mayBe(3, 0));
        Check.due("23 mayBe(-1, 0)", BAD, x.mayBe(-1, 0));
        Check.due("23 mayBe(0, 5)", BAD, x.mayBe(0, 5));
        Check.due("23 mayBe(0, -1)", BAD, x.mayBe(0, -1));
    }

    private static void mayBeNothing() {
        LastWord x = three();
        x.found(2, 4, -1);
        Check.due("23 nobody is MEANT", 1, x.mayBe(0, 4));
        Check.due("23 but him who wrote it", 1023, x.mayBe(2, 4));
        x.found(0, 4, 2);
        Check.due("23 1 at least", 1022, x.mayBe(2, 4));
        x.forget();
        x.found(1, 0, 1);
        Check.due("23 nobody is MEANT by himself", 0, x.mayBe(1, 0));
        Check.due("23 nor by another SUBJECT", 0, x.mayBe(1, 3));
    }

    private static void odds(LastWord x, int w, int s, int p, int upper, int lower) {
        String call = "24 odds(" + w + ", " + s + ", " + p + ", ";
        Check.due(call + "0)", upper, x.odds(w, s, p, 0));
        Check.due(call + "1)", lower, x.odds(w, s, p, 1));
    }

    private static void odds() {
        LastWord x = three();
        // on 0 all go round: both others have to be away
        odds(x, 0, 0, 0, 0, 1);
        odds(x, 0, 0, 3, 9, 100);
        odds(x, 0, 0, 5, 1, 4);
        odds(x, 0, 0, 8, 16, 25);
        odds(x, 0, 0, 10, 1, 1);
        odds(x, 0, 4, 0, 0, 1);
        odds(x, 0, 4, 4, 2, 5);
        odds(x, 2, 4, 4, 1, 1);
        odds(x, 1, 2, 0, 1, 1);
        x.lays(2);
        odds(x, 0, 0, 3, 3, 10);
        odds(x, 0, 4, 4, 1, 1);
        Check.due("24 odds(2, 0, 5, 0) who LAID down", LastWord.STATE, x.odds(2, 0, 5, 0));
        Check.due("24 odds(2, 0, 11, 0) who LAID down", BAD, x.odds(2, 0, 11, 0));
        Check.due("24 odds(3, 0, 5, 0)", BAD, x.odds(3, 0, 5, 0));
        Check.due("24 odds(-1, 0, 5, 0)", BAD, x.odds(-1, 0, 5, 0));
        Check.due("24 odds(0, 5, 5, 0)", BAD, x.odds(0, 5, 5, 0));
        Check.due("24 odds(0, -1, 5, 0)", BAD, x.odds(0, -1, 5, 0));
        Check.due("24 odds(0, 0, -1, 0)", BAD, x.odds(0, 0, -1, 0));
        Check.due("24 odds(0, 0, 11, 0)", BAD, x.odds(0, 0, 11, 0));
        Check.due("24 odds(0, 0, 5, 2)", BAD, x.odds(0, 0, 5, 2));
        Check.due("24 odds(0, 0, 5, -1)", BAD, x.odds(0, 0, 5, -1));
    }

    private static void oddsOfMany() {
        LastWord x = Check.told("w1 5 1 0 0 0 0;".repeat(6));
        odds(x, 5, 0, 9, 59049, 100000);
        odds(x, 0, 0, 1, 1, 100000);
        // 0 has it with 1 away (then nobody answers), or with 1 there and 2 away: 1 answers on 1, 0 on 1, the last
        LastWord own = Check.told("w1 5 0 9 0 0 0;w1 1 9 0 0 0 0;w1 5 0 8 0 0 0;");
        odds(own, 0, 0, 3, 51, 100);
    }

    private static void most() {
        LastWord x = Check.told("w1 5 9 0 0 0 0;w1 5 0 0 0 0 0;w1 5 0 0 0 0 0;");
        Check.due("25 no QUARREL", NONE, x.most());
        x.writes(1, 0);
        Check.due("25 none CLOSED", NONE, x.most());
        x.writes(2, 1);
        Check.due("25 the only one", 2, x.most());
        x.writes(1, 1);
        Check.due("25 of several the lowest", 1, x.most());
        x.writes(2, 2);
        Check.due("25 most", 2, x.most());
        x.lays(2);
        Check.due("25 who LAID down too", 2, x.most());
        x.day();
        x.writes(0, 0);
        Check.due("25 of several the lowest", 0, x.most());
    }

    private static void titles() {
        LastWord x = Check.told("w1 5 1 2 3 4 0;w2 4 1 3 3 0 0;w1 5 0 0 0 0 9;");
        Check.due("26 titles(0, 1)", 3, x.titles(0, 1));
        Check.due("26 titles(1, 0)", 3, x.titles(1, 0));
        Check.due("26 titles(1, 2)", 1, x.titles(1, 2));
        Check.due("26 titles(0, 2)", 0, x.titles(0, 2));
        Check.due("26 titles(1, 1)", BAD, x.titles(1, 1));
        Check.due("26 titles(0, 3)", BAD, x.titles(0, 3));
        Check.due("26 titles(3, 0)", BAD, x.titles(3, 0));
        Check.due("26 titles(-1, 0)", BAD, x.titles(-1, 0));
        Check.due("26 titles(0, -1)", BAD, x.titles(0, -1));
    }
}
