import java.util.List;
import java.util.function.Supplier;

/** Each argument of each call: what it may be at least and at most, just outside of that, and far outside. */
public final class ArgumentsTest {
    public static void main(String[] args) {
        edges("new", LastWord::new, Calls.arguments(0, 0, 0, 0));
        edges("quiet", States::quiet, Calls.arguments(2, 0, 0, 0));
        edges("full", States::full, Calls.arguments(6, 0, 6, 0));
        edges("full", States::full, Calls.arguments(6, 4, 6, 5));
        edges("text full", States::textFull, Calls.arguments(1, 0, 1, 0));
        edges("all laid", States::allLaid, Calls.arguments(3, 2, 2, 1));
        quarrelsOneByOne();
        Check.end();
    }

    private static void edges(String state, Supplier<LastWord> maker, List<Calls.Argument> arguments) {
        for (Calls.Argument argument : arguments) {
            String name = state + ": " + argument.name();
            LastWord x = maker.get();
            for (int value : argument.wrong()) {
                Check.due(name + " with " + value, argument.refusal(), argument.call().on(x, value));
            }
            if (argument.least() <= argument.greatest()) {
                taken(name, maker.get(), argument, argument.least());
                taken(name, maker.get(), argument, argument.greatest());
            }
        }
    }

    /** It may be refused, but not since the number would be wrong. */
    private static void taken(String name, LastWord x, Calls.Argument argument, int value) {
        boolean refused = argument.call().on(x, value) == argument.refusal();
        Check.due(name + " with " + value + " is refused", 0, refused ? 1 : 0);
    }

    /** What is written just now is there, the next one is not. */
    private static void quarrelsOneByOne() {
        LastWord x = States.quiet();
        for (int q = 0; q < 6; q++) {
            Check.due("6 quarrel " + q + " before it is written", LastWord.BAD, x.quarrel(q, 0));
            Check.due("14 ends(" + q + ") before it is written", LastWord.BAD, x.ends(q));
            Check.due("9 writes(1, 2)", q, x.writes(1, 2));
            Check.due("6 quarrel " + q, 1, x.quarrel(q, 0));
            Check.due("14 ends(" + q + ")", 0, x.ends(q));
        }
        Check.due("6 a seventh", LastWord.BAD, x.quarrel(6, 0));
        x.undo();
        Check.due("6 the sixth, UNDONE", LastWord.BAD, x.quarrel(5, 0));
        Check.due("13 the sixth, UNDONE", LastWord.BAD, x.inDays(5, 0, 0));
        Check.due("14 the sixth, UNDONE", LastWord.BAD, x.ends(5));
        Check.due("20 the sixth, UNDONE", LastWord.BAD, x.peace(5));
        Check.due("6 the fifth", 1, x.quarrel(4, 0));
    }
}
