import java.util.ArrayList;
import java.util.List;
import java.util.function.Supplier;
import java.util.function.ToLongFunction;

/**
 * What is refused, and what only asks, changes nothing that another call shows: of two objects made alike one has
 * the call besides, and then both answer the same.
 */
public final class RefusedTest {
    private static final int STATE = LastWord.STATE;
    private static final int FULL = LastWord.FULL;

    interface Probe {
        void look(LastWord x, List<Long> answers);
    }

    private static final List<Probe> PROBES = List.of(RefusedTest::lookAt, RefusedTest::lookAhead,
        RefusedTest::undoAll, RefusedTest::backToImages, RefusedTest::backToTheOther, RefusedTest::readTheText,
        RefusedTest::goOn);

    private final String state;
    private final Supplier<LastWord> maker;
    private final List<List<Long>> due = new ArrayList<>();

    private RefusedTest(String state, Supplier<LastWord> maker) {
        this.state = state;
        this.maker = maker;
        for (Probe probe : PROBES) {
            due.add(answers(probe, maker.get()));
        }
    }

    public static void main(String[] args) {
        statesAreAsSaid();
        newObject();
        quiet();
        full();
        textFull();
        allLaid();
        Check.end();
    }

    /** Without this the rest might look at nothing. */
    private static void statesAreAsSaid() {
        LastWord full = States.full();
        Check.due("full: WRITERS", 6, full.count(0));
        Check.due("full: QUARRELS", 6, full.now(1));
        Check.due("full: UNDONE", 10, full.now(4));
        Check.due("full: FOUND", 5, full.count(2));
        Check.due("full: letters", 11, full.count(3));
        Check.due("full: LAID", 1, full.writer(5, 7));
        Check.due("full: some are CLOSED, some OWED", 1, full.now(2) > 0 && full.now(2) < 63 ? 1 : 0);
        Check.due("full: THE DAY", 8, full.now(0));
        Check.due("full: the first IMAGE", 0, full.back(0));
        Check.due("full: the second IMAGE", 4, full.back(1));
        Check.due("text full: letters", 200, States.textFull().count(3));
        LastWord allLaid = States.allLaid();
        for (int w = 0; w < 3; w++) {
            Check.due("all laid: LAID", 1, allLaid.writer(w, 7));
        }
        Check.due("all laid: QUARRELS", 2, allLaid.now(1));
    }

    private static void newObject() {
        RefusedTest test = new RefusedTest("new", LastWord::new);
        test.wrongArguments(Calls.arguments(0, 0, 0, 0));
        test.refused("12 undo()", STATE, x -> x.undo());
        test.refused("29 back(0)", STATE, x -> x.back(0));
        test.refused("29 back(1)", STATE, x -> x.back(1));
        test.refused("3 clear() of nothing", 0, x -> x.clear());
        test.refused("22 forget() of nothing", 0, x -> x.forget());
        test.refused("25 most()", LastWord.NONE, x -> x.most());
        test.refused("31 trace()", 0, x -> x.trace());
    }

    private static void quiet() {
        RefusedTest test = new RefusedTest("quiet", States::quiet);
        test.wrongArguments(Calls.arguments(2, 0, 0, 0));
        test.refused("12 undo()", STATE, x -> x.undo());
        test.refused("29 back(0)", STATE, x -> x.back(0));
        test.refused("29 back(1)", STATE, x -> x.back(1));
        test.refused("26 titles(1, 1)", LastWord.BAD, x -> x.titles(1, 1));
    }

    private static void full() {
        RefusedTest test = new RefusedTest("full", States::full);
        test.wrongArguments(Calls.arguments(6, 0, 6, 0));
        test.wrongArguments(Calls.arguments(6, 4, 6, 5));
        test.refused("4 paper()", -10 - 11, x -> x.paper());
        test.refused("9 writes(0, 0)", FULL, x -> x.writes(0, 0));
        test.refused("9 writes(5, 0)", STATE, x -> x.writes(5, 0));
        test.refused("11 lays(5)", STATE, x -> x.lays(5));
        test.refused("15 round(5, 0, 0)", STATE, x -> x.round(5, 0, 0));
        test.refused("16 last(5)", STATE, x -> x.last(5));
        test.refused("21 found(0, 0, 1)", FULL, x -> x.found(0, 0, 1));
        test.refused("24 odds(5, 0, 5, 0)", STATE, x -> x.odds(5, 0, 5, 0));
        test.refused("26 titles(3, 3)", LastWord.BAD, x -> x.titles(3, 3));
        test.refused("25 most()", States.full().most(), x -> x.most());
        test.refused("31 trace()", 1011, x -> x.trace());
    }

    private static void textFull() {
        RefusedTest test = new RefusedTest("text full", States::textFull);
        test.wrongArguments(Calls.arguments(1, 0, 1, 0));
        test.refused("2 type(32)", FULL, x -> x.type(32));
        test.refused("2 type(59)", FULL, x -> x.type(';'));
        test.refused("2 type(256)", LastWord.BAD, x -> x.type(256));
        test.refused("4 paper()", -10 - 199, x -> x.paper());
    }

    private static void allLaid() {
        RefusedTest test = new RefusedTest("all laid", States::allLaid);
        test.wrongArguments(Calls.arguments(3, 0, 2, 0));
        test.refused("29 back(0)", STATE, x -> x.back(0));
        for (int w = 0; w < 3; w++) {
            int who = w;
            test.refused("9 writes(" + w + ", 1)", STATE, x -> x.writes(who, 1));
            test.refused("11 lays(" + w + ")", STATE, x -> x.lays(who));
            test.refused("15 round(" + w + ", 1, 1)", STATE, x -> x.round(who, 1, 1));
            test.refused("16 last(" + w + ")", STATE, x -> x.last(who));
            test.refused("24 odds(" + w + ", 1, 1, 1)", STATE, x -> x.odds(who, 1, 1, 1));
        }
    }

    private void wrongArguments(List<Calls.Argument> arguments) {
        for (Calls.Argument argument : arguments) {
            int[] wrong = {argument.least() - 1, argument.greatest() + 1, Integer.MIN_VALUE, Integer.MAX_VALUE};
            for (int value : wrong) {
                refused(argument.name() + " with " + value, argument.refusal(), x -> argument.call().on(x, value));
            }
            for (int value = argument.least(); argument.question() && value <= argument.greatest(); value++) {
                int right = value;
                asked(argument.name() + " with " + value, x -> argument.call().on(x, right));
            }
        }
    }

    private void refused(String name, long want, ToLongFunction<LastWord> call) {
        Check.due(state + ": " + name, want, call.applyAsLong(maker.get()));
        asked(name, call);
    }

    private void asked(String name, ToLongFunction<LastWord> call) {
        for (int i = 0; i < PROBES.size(); i++) {
            LastWord x = maker.get();
            call.applyAsLong(x);
            List<Long> seen = answers(PROBES.get(i), x);
            Check.due(state + ": " + name + " shows in probe " + i, 1, seen.equals(due.get(i)) ? 1 : 0);
        }
    }

    private static List<Long> answers(Probe probe, LastWord x) {
        List<Long> all = new ArrayList<>();
        probe.look(x, all);
        return all;
    }

    // ---- probes

    private static void lookAt(LastWord x, List<Long> answers) {
        for (int w = 0; w < 6; w++) {
            for (int what = 0; what < 10; what++) {
                answers.add((long) x.writer(w, what));
            }
        }
        lookAtAffairs(x, answers);
        for (int what = 0; what < 4; what++) {
            answers.add((long) x.count(what));
        }
        answers.add(x.trace());
    }

    private static void lookAtAffairs(LastWord x, List<Long> answers) {
        for (int q = 0; q < 6; q++) {
            for (int what = 0; what < 6; what++) {
                answers.add((long) x.quarrel(q, what));
            }
        }
        for (int what = 0; what < 5; what++) {
            answers.add((long) x.now(what));
        }
    }

    private static void lookAhead(LastWord x, List<Long> answers) {
        for (int w = 0; w < 6; w++) {
            for (int s = 0; s < 5; s++) {
                answers.add((long) x.meant(w, s));
                answers.add((long) x.mayBe(w, s));
                answers.add((long) x.round(w, s, 0));
            }
            answers.add((long) x.last(w));
            answers.add((long) x.bindsNobody(w));
            answers.add((long) x.keeps(w));
            answers.add((long) x.odds(w, 0, 3, 0));
            answers.add((long) x.titles(w, 0));
        }
        for (int q = 0; q < 6; q++) {
            answers.add((long) x.ends(q));
            answers.add((long) x.peace(q));
            answers.add((long) x.inDays(q, 7, 0));
        }
        answers.add((long) x.lateFirst(0));
        answers.add((long) x.lateFirst(1));
        answers.add((long) x.most());
    }

    private static void undoAll(LastWord x, List<Long> answers) {
        for (int i = 0; i < 11; i++) {
            answers.add((long) x.undo());
            for (int q = 0; q < 6; q++) {
                answers.add((long) x.quarrel(q, 0));
                answers.add((long) x.quarrel(q, 3));
                answers.add((long) x.quarrel(q, 4));
            }
            answers.add((long) x.now(0));
            answers.add((long) x.now(3));
            answers.add((long) x.writer(2, 9));
        }
    }

    private static void backToImages(LastWord x, List<Long> answers) {
        answers.add((long) x.back(0));
        lookAtAffairs(x, answers);
        answers.add((long) x.back(1));
        lookAtAffairs(x, answers);
        for (int w = 0; w < 6; w++) {
            answers.add((long) x.writer(w, 7));
            answers.add((long) x.writer(w, 9));
        }
    }

    private static void backToTheOther(LastWord x, List<Long> answers) {
        answers.add((long) x.back(1));
        lookAtAffairs(x, answers);
        answers.add((long) x.undo());
    }

    /** The text as it is, then what of it can be made right by going on with it. */
    private static void readTheText(LastWord x, List<Long> answers) {
        answers.add((long) x.paper());
        answers.add((long) x.count(3));
        String rest = " 0 0 7;";
        for (int i = 0; i < rest.length(); i++) {
            answers.add((long) x.type(rest.charAt(i)));
        }
        answers.add((long) x.paper());
        lookAt(x, answers);
    }

    private static void goOn(LastWord x, List<Long> answers) {
        answers.add((long) x.forget());
        answers.add((long) x.found(0, 0, 1));
        answers.add((long) x.undo());
        for (int i = 0; i < 12; i++) {
            answers.add((long) x.writes(i % 2, i % 5));
            answers.add((long) x.day());
            answers.add((long) x.rate(i % 6, 0));
        }
        answers.add((long) x.lays(1));
        answers.add((long) x.keep(0));
        answers.add((long) x.day());
        answers.add((long) x.back(0));
        lookAtAffairs(x, answers);
        answers.add(x.trace());
        answers.add((long) x.clear());
    }
}
