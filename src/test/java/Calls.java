import java.util.ArrayList;
import java.util.List;

/** Every argument of every call, with the least and the greatest that it may be while all others are right. */
final class Calls {
    interface Call {
        long on(LastWord x, int value);
    }

    /** A question changes nothing, whatever it is answered. */
    record Argument(String name, boolean question, int least, int greatest, long refusal, Call call) {
        /** What it may not be: just outside, far outside, and what a shift or a narrow type would take for right. */
        List<Integer> wrong() {
            int[] some = {least - 1, greatest + 1, Integer.MIN_VALUE, Integer.MAX_VALUE, Integer.MIN_VALUE + 1,
                Integer.MAX_VALUE - 1, least - 2, greatest + 2, LastWord.NONE, LastWord.NO, 31, 32, 64, 256, 65536,
                -32, -64, -256, -65536, Integer.MIN_VALUE + 256};
            List<Integer> all = new ArrayList<>();
            for (int value : some) {
                if ((value < least || value > greatest) && !all.contains(value)) {
                    all.add(value);
                }
            }
            return all;
        }
    }

    private final List<Argument> all = new ArrayList<>();

    private Calls() {
    }

    /** Of an object with so many writers, w of whom has not laid down the pen, and so many quarrels, one of them q. */
    static List<Argument> arguments(int writers, int w, int quarrels, int q) {
        Calls calls = new Calls();
        calls.add("type(?)", 0, 255, (x, v) -> x.type(v));
        calls.ofWriters(writers - 1);
        calls.ofQuarrels(quarrels - 1);
        if (writers > 0) {
            calls.ofSubjects(w);
            calls.ofOthers(writers - 1, w);
        }
        if (quarrels > 0) {
            calls.ask("quarrel(q, ?)", 0, 5, (x, v) -> x.quarrel(q, v));
            calls.ask("inDays(q, ?, 0)", 0, 60, (x, v) -> x.inDays(q, v, 0));
            calls.ask("inDays(q, 0, ?)", 0, 2, (x, v) -> x.inDays(q, 0, v));
        }
        calls.ask("now(?)", 0, 4, (x, v) -> x.now(v));
        calls.ask("lateFirst(?)", 0, 1, (x, v) -> x.lateFirst(v));
        calls.ask("count(?)", 0, 3, (x, v) -> x.count(v));
        calls.add("keep(?)", 0, 1, (x, v) -> x.keep(v));
        calls.add("back(?)", 0, 1, (x, v) -> x.back(v));
        return calls.all;
    }

    private void ofWriters(int last) {
        ask("writer(?, 0)", 0, last, (x, v) -> x.writer(v, 0));
        ask("writer(?, 6)", 0, last, (x, v) -> x.writer(v, 6));
        ask("writer(?, 7)", 0, last, (x, v) -> x.writer(v, 7));
        ask("writer(?, 9)", 0, last, (x, v) -> x.writer(v, 9));
        ask("meant(?, 0)", 0, last, (x, v) -> x.meant(v, 0));
        add("writes(?, 0)", 0, last, (x, v) -> x.writes(v, 0));
        add("lays(?)", 0, last, (x, v) -> x.lays(v));
        ask("round(?, 0, 0)", 0, last, (x, v) -> x.round(v, 0, 0));
        ask("last(?)", 0, last, (x, v) -> x.last(v));
        ask("bindsNobody(?)", 0, last, (x, v) -> x.bindsNobody(v));
        ask("keeps(?)", 0, last, (x, v) -> x.keeps(v));
        add("found(?, 0, -1)", 0, last, (x, v) -> x.found(v, 0, -1));
        ask("mayBe(?, 0)", 0, last, (x, v) -> x.mayBe(v, 0));
        ask("odds(?, 0, 5, 0)", 0, last, (x, v) -> x.odds(v, 0, 5, 0));
        for (int kind = 0; kind < 6; kind++) {
            int as = kind;
            rate("rate(" + as + ", ?)", last, (x, v) -> x.rate(as, v));
        }
    }

    private void ofQuarrels(int last) {
        for (int what = 0; what < 6; what++) {
            int as = what;
            ask("quarrel(?, " + as + ")", 0, last, (x, v) -> x.quarrel(v, as));
        }
        ask("inDays(?, 0, 0)", 0, last, (x, v) -> x.inDays(v, 0, 0));
        ask("ends(?)", 0, last, (x, v) -> x.ends(v));
        ask("peace(?)", 0, last, (x, v) -> x.peace(v));
    }

    private void ofSubjects(int w) {
        ask("meant(w, ?)", 0, 4, (x, v) -> x.meant(w, v));
        add("writes(w, ?)", 0, 4, (x, v) -> x.writes(w, v));
        ask("round(w, ?, 0)", 0, 4, (x, v) -> x.round(w, v, 0));
        add("found(w, ?, -1)", 0, 4, (x, v) -> x.found(w, v, -1));
        ask("mayBe(w, ?)", 0, 4, (x, v) -> x.mayBe(w, v));
        ask("odds(w, ?, 5, 0)", 0, 4, (x, v) -> x.odds(w, v, 5, 0));
    }

    private void ofOthers(int last, int w) {
        ask("writer(w, ?)", 0, 9, (x, v) -> x.writer(w, v));
        ask("round(w, 0, ?)", 0, 1, (x, v) -> x.round(w, 0, v));
        add("found(w, 0, ?)", -1, last, (x, v) -> x.found(w, 0, v));
        ask("odds(w, 0, ?, 0)", 0, 10, (x, v) -> x.odds(w, 0, v, 0));
        ask("odds(w, 0, 5, ?)", 0, 1, (x, v) -> x.odds(w, 0, 5, v));
        rate("rate(?, w)", 5, (x, v) -> x.rate(v, w));
        if (w < last) {
            ask("titles(?, last)", 0, last - 1, (x, v) -> x.titles(v, last));
            ask("titles(last, ?)", 0, last - 1, (x, v) -> x.titles(last, v));
            ask("titles(?, 0)", 1, last, (x, v) -> x.titles(v, 0));
            ask("titles(0, ?)", 1, last, (x, v) -> x.titles(0, v));
        }
    }

    private void ask(String name, int least, int greatest, Call call) {
        all.add(new Argument(name, true, least, greatest, LastWord.BAD, call));
    }

    private void add(String name, int least, int greatest, Call call) {
        all.add(new Argument(name, false, least, greatest, LastWord.BAD, call));
    }

    private void rate(String name, int greatest, Call call) {
        all.add(new Argument(name, false, 0, greatest, LastWord.NO, call));
    }
}
