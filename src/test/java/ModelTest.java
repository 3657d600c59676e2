import java.util.Random;

/** Promises 1 to 31 once more: random runs of calls, always the same ones, against the model. */
public final class ModelTest {
    private static final int RUNS = 1500;
    private static final int CALLS = 512;
    private static final int CALLS_FOR_A_TEXT = 201;

    private final Random random;
    private final LastWord x = new LastWord();
    private final Model model = new Model();
    private final int run;
    private int calls = 0;
    private String last = "";

    private ModelTest(int run) {
        this.run = run;
        this.random = new Random(run);
    }

    public static void main(String[] args) {
        int runs = args.length > 0 ? Integer.parseInt(args[0]) : RUNS;
        for (int run = 0; run < runs; run++) {
            new ModelTest(run).go();
        }
        Check.end();
    }

    private void go() {
        if (random.nextInt(20) > 0) {
            tell(paperText(2 + random.nextInt(5)));
        }
        int most = CALLS - random.nextInt(300);
        while (calls < most) {
            if (calls + CALLS_FOR_A_TEXT < most && random.nextInt(100) == 0) {
                tell(paperText(random.nextInt(4) == 0 ? random.nextInt(8) : random.nextInt(4)));
            } else {
                call();
            }
        }
    }

    private void same(String call, long want, long got) {
        calls++;
        Check.due("run " + run + " behind " + last + ": " + call, want, got);
        last = call;
    }

    // ---- texts

    private void tell(String told) {
        String text = told;
        if (random.nextInt(4) == 0) {
            text = spoilt(text);
        }
        for (int i = 0; i < text.length() && i < 200; i++) {
            same("type", model.type(text.charAt(i)), x.type(text.charAt(i)));
        }
        same("paper() of '" + text + "'", model.paper(), x.paper());
    }

    private String paperText(int writers) {
        StringBuilder text = new StringBuilder();
        int termAt = random.nextInt(writers + 2);
        int most = random.nextBoolean() ? 9 : 2;
        int nearby = 1 + random.nextInt(9);
        for (int w = 0; w <= writers; w++) {
            if (w == termAt) {
                text.append("t").append(blank()).append(1 + random.nextInt(20)).append(blank()).append(";");
            }
            if (w < writers) {
                text.append("w").append(1 + random.nextInt(most)).append(' ').append(random.nextInt(6));
                for (int s = 0; s < 5; s++) {
                    int near = random.nextInt(10) < nearby ? random.nextInt(random.nextInt(10) + 1) : 0;
                    text.append(' ').append(near);
                }
                text.append(blank()).append(";");
            }
        }
        return text.toString();
    }

    private String blank() {
        return random.nextInt(8) == 0 ? " " : "";
    }

    private String spoilt(String text) {
        StringBuilder other = new StringBuilder(text);
        String signs = "0123456789wt;; xW\t";
        for (int n = random.nextInt(3); n >= 0; n--) {
            int at = random.nextInt(other.length() + 1);
            char sign = random.nextInt(20) == 0 ? (char) random.nextInt(256) : signs.charAt(random.nextInt(signs.length()));
            int how = random.nextInt(4);
            if (how == 0 || at == other.length()) {
                other.insert(at, sign);
            } else if (how == 1) {
                other.setCharAt(at, sign);
            } else if (how == 2) {
                other.deleteCharAt(at);
            } else {
                other.setLength(at);
            }
        }
        return other.toString();
    }

    // ---- calls

    /** Mostly 0 .. most, now and then just or far outside. */
    private int upTo(int most) {
        int kind = random.nextInt(60);
        if (kind == 0) {
            return -1;
        }
        if (kind == 1) {
            return most + 1;
        }
        if (kind == 2) {
            return random.nextInt();
        }
        return random.nextInt(most + 1);
    }

    private int someone() {
        return upTo(Math.max(0, model.count(0) - 1));
    }

    private int someQuarrel() {
        return upTo(Math.max(0, model.now(1) - 1));
    }

    private void call() {
        int group = random.nextInt(10);
        if (group < 3) {
            doSomething();
        } else if (group < 6) {
            lookAhead();
        } else if (group < 8) {
            find();
        } else {
            look();
        }
    }

    private void doSomething() {
        int w = someone();
        int s = upTo(4);
        int image = upTo(1);
        switch (random.nextInt(24)) {
            case 0, 1, 2, 3 -> same("writes(" + w + ", " + s + ")", model.writes(w, s), x.writes(w, s));
            case 4 -> same("lays(" + w + ")", model.lays(w), x.lays(w));
            case 5, 6, 7 -> same("undo()", model.undo(), x.undo());
            case 8 -> same("keep(" + image + ")", model.keep(image), x.keep(image));
            case 9 -> same("back(" + image + ")", model.back(image), x.back(image));
            default -> same("day()", model.day(), x.day());
        }
    }

    private void lookAhead() {
        int w = someone();
        int s = upTo(4);
        int q = someQuarrel();
        int n = upTo(60);
        int what = upTo(1);
        switch (random.nextInt(11)) {
            case 0 -> {
                int part = upTo(2);
                same("inDays(" + q + ", " + n + ", " + part + ")", model.inDays(q, n, part), x.inDays(q, n, part));
            }
            case 1 -> same("ends(" + q + ")", model.ends(q), x.ends(q));
            case 2, 3 -> same("round(" + w + ", " + s + ", " + what + ")", model.round(w, s, what), x.round(w, s, what));
            case 4 -> same("last(" + w + ")", model.last(w), x.last(w));
            case 5 -> same("bindsNobody(" + w + ")", model.bindsNobody(w), x.bindsNobody(w));
            case 6, 7 -> same("keeps(" + w + ")", model.keeps(w), x.keeps(w));
            case 8, 9 -> same("lateFirst(" + what + ")", model.lateFirst(what), x.lateFirst(what));
            default -> {
                // dear in the model
                if (random.nextInt(4) == 0) {
                    same("peace(" + q + ")", model.peace(q), x.peace(q));
                }
            }
        }
    }

    private void find() {
        int w = someone();
        int s = upTo(4);
        int y = someone();
        int p = upTo(10);
        int what = upTo(1);
        switch (random.nextInt(9)) {
            case 0 -> same("found(" + w + ", " + s + ", " + (y - 1) + ")", model.found(w, s, y - 1), x.found(w, s, y - 1));
            case 1 -> {
                // what is so, so that much may be
                int so = model.meant(w, s) == LastWord.NONE ? -1 : model.meant(w, s);
                same("found(" + w + ", " + s + ", " + so + ")", model.found(w, s, so), x.found(w, s, so));
            }
            case 2 -> {
                if (random.nextInt(3) == 0) {
                    same("forget()", model.forget(), x.forget());
                }
            }
            case 3, 4 -> same("mayBe(" + w + ", " + s + ")", model.mayBe(w, s), x.mayBe(w, s));
            case 5, 6 -> same("odds(" + w + ", " + s + ", " + p + ", " + what + ")",
                model.odds(w, s, p, what), x.odds(w, s, p, what));
            case 7 -> same("most()", model.most(), x.most());
            default -> same("titles(" + w + ", " + y + ")", model.titles(w, y), x.titles(w, y));
        }
    }

    private void look() {
        int w = someone();
        int s = upTo(4);
        int q = someQuarrel();
        int what = upTo(9);
        int kind = upTo(5);
        switch (random.nextInt(13)) {
            case 0, 1 -> same("writer(" + w + ", " + what + ")", model.writer(w, what), x.writer(w, what));
            case 2, 3, 4 -> same("quarrel(" + q + ", " + kind + ")", model.quarrel(q, kind), x.quarrel(q, kind));
            case 5 -> same("meant(" + w + ", " + s + ")", model.meant(w, s), x.meant(w, s));
            case 6, 7 -> same("now(" + s + ")", model.now(s), x.now(s));
            case 8, 9 -> same("rate(" + kind + ", " + w + ")", model.rate(kind, w), x.rate(kind, w));
            case 10 -> same("trace()", model.trace(), x.trace());
            case 11 -> same("count(" + kind + ")", model.count(kind), x.count(kind));
            default -> {
                int letter = upTo(255);
                if (random.nextInt(3) == 0) {
                    same("clear()", model.clear(), x.clear());
                } else if (random.nextInt(20) == 0) {
                    same("type(" + letter + ")", model.type(letter), x.type(letter));
                }
            }
        }
    }
}
