import java.math.BigInteger;
import java.util.ArrayDeque;
import java.util.ArrayList;
import java.util.Deque;
import java.util.HashSet;
import java.util.List;
import java.util.Set;

/** The document once more, written as slowly and plainly as can be, with no thought to rooms and rules. */
final class Model {
    private static final int BAD = -1, STATE = -2, FULL = -3, NONE = -9, NO = -1000000;

    /** NEAR, PEN and HOBBY of a writer. */
    private record Writer(int pen, int hobby, List<Integer> near) {
    }

    private record Letter(int writer, int subject) {
    }

    private record Quarrel(Letter letter, int printed, int owes, int work, boolean late) {
    }

    private record Now(int day, List<Quarrel> quarrels, Set<Integer> laid, int letters, List<Integer> late) {
    }

    private record Finding(int w, int s, int x) {
    }

    private final StringBuilder text = new StringBuilder();
    private List<Writer> writers = new ArrayList<>();
    private int term = 9;
    private Now now = fresh();
    private final Deque<Now> undo = new ArrayDeque<>();
    private final Now[] images = new Now[2];
    private final List<Finding> found = new ArrayList<>();
    private long trace = 0;

    private static Now fresh() {
        return new Now(0, List.of(), Set.of(), 0, List.of(0, 0, 0, 0, 0, 0));
    }

    // ---- the paper

    int type(int letter) {
        if (letter < 0 || letter > 255) {
            return BAD;
        }
        if (text.length() == 200) {
            return FULL;
        }
        text.append((char) letter);
        return text.length();
    }

    int clear() {
        int had = text.length();
        text.setLength(0);
        return had;
    }

    /** Tokens with their places; what no token can be is told as "?". */
    private record Token(int place, String word) {
    }

    private List<Token> tokens() {
        List<Token> all = new ArrayList<>();
        String t = text.toString();
        java.util.regex.Matcher m = java.util.regex.Pattern.compile("[0-9]+|[^ ]", java.util.regex.Pattern.DOTALL).matcher(t);
        while (m.find()) {
            String word = m.group();
            boolean number = word.matches("0|[1-9]|1[0-9]|20");
            boolean sign = word.equals("w") || word.equals("t") || word.equals(";");
            all.add(new Token(m.start(), number || sign ? word : "?"));
        }
        all.add(new Token(t.length(), "end"));
        return all;
    }

    private static boolean isNumber(String word, int low, int high) {
        return word.matches("[0-9]+") && Integer.parseInt(word) >= low && Integer.parseInt(word) <= high;
    }

    int paper() {
        int[][] shapeOfW = {{1, 9}, {0, 5}, {0, 9}, {0, 9}, {0, 9}, {0, 9}, {0, 9}};
        int[][] shapeOfT = {{1, 20}};
        List<Writer> told = new ArrayList<>();
        Integer termTold = null;
        int items = 0;
        List<Token> all = tokens();
        int i = 0;
        while (!all.get(i).word.equals("end")) {
            Token head = all.get(i);
            boolean w = head.word.equals("w") && told.size() < 6;
            boolean t = head.word.equals("t") && termTold == null;
            if (!w && !t) {
                return -10 - head.place;
            }
            List<Integer> numbers = new ArrayList<>();
            for (int[] range : w ? shapeOfW : shapeOfT) {
                i++;
                if (!isNumber(all.get(i).word, range[0], range[1])) {
                    return -10 - all.get(i).place;
                }
                numbers.add(Integer.parseInt(all.get(i).word));
            }
            i++;
            if (!all.get(i).word.equals(";")) {
                return -10 - all.get(i).place;
            }
            i++;
            items++;
            if (w) {
                told.add(new Writer(numbers.get(0), numbers.get(1), List.copyOf(numbers.subList(2, 7))));
            } else {
                termTold = numbers.get(0);
            }
        }
        text.setLength(0);
        writers = told;
        term = termTold == null ? 9 : termTold;
        now = fresh();
        undo.clear();
        images[0] = null;
        images[1] = null;
        found.clear();
        return items;
    }

    private boolean noWriter(int w) {
        return w < 0 || w >= writers.size();
    }

    private static boolean not(int x, int low, int high) {
        return x < low || x > high;
    }

    private boolean noLetter(int w, int s) {
        return noWriter(w) || not(s, 0, 4);
    }

    private boolean noQuarrel(int q) {
        return q < 0 || q >= now.quarrels.size();
    }

    private int owed(Now n, int w) {
        return (int) n.quarrels.stream().filter(q -> q.owes == w).count();
    }

    private int lastWords(int w) {
        return (int) now.quarrels.stream().filter(q -> q.owes == NONE && q.letter.writer == w).count();
    }

    int writer(int w, int what) {
        if (noWriter(w) || not(what, 0, 9)) {
            return BAD;
        }
        Writer x = writers.get(w);
        return switch (what) {
            case 0 -> x.pen;
            case 1 -> x.hobby;
            case 7 -> now.laid.contains(w) ? 1 : 0;
            case 8 -> owed(now, w);
            case 9 -> now.late.get(w);
            default -> x.near.get(what - 2);
        };
    }

    int quarrel(int q, int what) {
        if (noQuarrel(q) || not(what, 0, 5)) {
            return BAD;
        }
        Quarrel x = now.quarrels.get(q);
        return switch (what) {
            case 0 -> x.letter.writer;
            case 1 -> x.letter.subject;
            case 2 -> x.printed;
            case 3 -> x.owes;
            case 4 -> x.owes == NONE ? 0 : x.work;
            default -> x.late ? 1 : 0;
        };
    }

    private int meantBy(List<Writer> among, Letter letter, Set<Integer> laid) {
        int best = among.stream().mapToInt(x -> x.near.get(letter.subject)).max().orElse(0);
        for (int near = best; near >= 1; near--) {
            for (int w = 0; w < among.size(); w++) {
                boolean may = w != letter.writer && !laid.contains(w);
                if (may && among.get(w).near.get(letter.subject) == near) {
                    return w;
                }
            }
        }
        return NONE;
    }

    int meant(int w, int s) {
        return noLetter(w, s) ? BAD : meantBy(writers, new Letter(w, s), now.laid);
    }

    int now(int what) {
        return switch (what) {
            case 0 -> now.day;
            case 1 -> now.quarrels.size();
            case 2 -> {
                int bits = 0;
                for (int q = 0; q < now.quarrels.size(); q++) {
                    bits += now.quarrels.get(q).owes == NONE ? 1 << q : 0;
                }
                yield bits;
            }
            case 3 -> now.letters;
            case 4 -> undo.size();
            default -> BAD;
        };
    }

    // ---- what is done

    private Quarrel printed(Letter letter, int day, Set<Integer> laid) {
        int owes = meantBy(writers, letter, laid);
        return new Quarrel(letter, day, owes, owes == NONE ? 0 : writers.get(owes).pen, false);
    }

    private void remember() {
        undo.push(now);
        if (undo.size() > 10) {
            undo.removeLast();
        }
    }

    int writes(int w, int s) {
        if (noLetter(w, s)) {
            return BAD;
        }
        if (now.laid.contains(w)) {
            return STATE;
        }
        if (now.quarrels.size() == 6) {
            return FULL;
        }
        remember();
        List<Quarrel> more = new ArrayList<>(now.quarrels);
        more.add(printed(new Letter(w, s), now.day, now.laid));
        now = new Now(now.day, more, now.laid, now.letters + 1, now.late);
        return more.size() - 1;
    }

    private Now nextDay(Now n) {
        List<Quarrel> quarrels = new ArrayList<>(n.quarrels);
        List<Integer> late = new ArrayList<>(n.late);
        for (int w = 0; w < writers.size(); w++) {
            int at = -1;
            for (int q = quarrels.size() - 1; q >= 0; q--) {
                if (quarrels.get(q).owes == w && (at < 0 || quarrels.get(q).printed <= quarrels.get(at).printed)) {
                    at = q;
                }
            }
            if (at >= 0) {
                Quarrel x = quarrels.get(at);
                quarrels.set(at, new Quarrel(x.letter, x.printed, x.owes, x.work - 1, x.late));
            }
        }
        int day = n.day + 1;
        int letters = n.letters;
        for (int q = 0; q < quarrels.size(); q++) {
            Quarrel x = quarrels.get(q);
            if (x.owes == NONE) {
                continue;
            }
            if (x.work == 0) {
                quarrels.set(q, printed(answer(x.letter, x.owes), day, n.laid));
                letters++;
            } else if (x.printed + term == day) {
                quarrels.set(q, new Quarrel(x.letter, x.printed, x.owes, x.work, true));
                late.set(x.owes, late.get(x.owes) + 1);
            }
        }
        return new Now(day, quarrels, n.laid, letters, late);
    }

    private Letter answer(Letter to, int by) {
        int hobby = writers.get(by).hobby;
        return new Letter(by, hobby == 5 ? to.subject : hobby);
    }

    int day() {
        if (now.day == 999) {
            return STATE;
        }
        remember();
        int letters = now.letters;
        now = nextDay(now);
        return now.letters - letters;
    }

    private Now laidDown(Now n, int w) {
        Set<Integer> laid = new HashSet<>(n.laid);
        laid.add(w);
        List<Quarrel> quarrels = new ArrayList<>();
        for (Quarrel x : n.quarrels) {
            if (x.owes == w) {
                int owes = meantBy(writers, x.letter, laid);
                int work = owes == NONE ? 0 : writers.get(owes).pen;
                quarrels.add(new Quarrel(x.letter, x.printed, owes, work, x.late));
            } else {
                quarrels.add(x);
            }
        }
        return new Now(n.day, quarrels, laid, n.letters, n.late);
    }

    int lays(int w) {
        if (noWriter(w)) {
            return BAD;
        }
        if (now.laid.contains(w)) {
            return STATE;
        }
        remember();
        int owed = owed(now, w);
        now = laidDown(now, w);
        return owed;
    }

    int undo() {
        if (undo.isEmpty()) {
            return STATE;
        }
        now = undo.pop();
        return undo.size();
    }

    // ---- how it goes

    int inDays(int q, int n, int what) {
        if (noQuarrel(q) || not(n, 0, 60) || not(what, 0, 2)) {
            return BAD;
        }
        Now then = now;
        for (int i = 0; i < n; i++) {
            then = nextDay(then);
        }
        Quarrel x = then.quarrels.get(q);
        return what == 0 ? x.letter.writer : what == 1 ? x.letter.subject : x.owes;
    }

    private int endsFrom(Now from, int q) {
        Now then = from;
        for (int n = 0; n <= 400; n++) {
            if (then.quarrels.get(q).owes == NONE) {
                return n;
            }
            then = nextDay(then);
        }
        return NONE;
    }

    int ends(int q) {
        return noQuarrel(q) ? BAD : endsFrom(now, q);
    }

    /** All letters till it is closed; nothing, if one of them comes again. */
    private List<Letter> chain(Letter first, Set<Integer> laid) {
        List<Letter> all = new ArrayList<>();
        Letter letter = first;
        while (true) {
            if (all.contains(letter)) {
                return List.of();
            }
            all.add(letter);
            int next = meantBy(writers, letter, laid);
            if (next == NONE) {
                return all;
            }
            letter = answer(letter, next);
        }
    }

    private int lastWord(int w, int s, Set<Integer> laid) {
        List<Letter> all = chain(new Letter(w, s), laid);
        return all.isEmpty() ? NONE : all.get(all.size() - 1).writer;
    }

    int round(int w, int s, int what) {
        if (noLetter(w, s) || not(what, 0, 1)) {
            return BAD;
        }
        if (now.laid.contains(w)) {
            return STATE;
        }
        int many = chain(new Letter(w, s), now.laid).size();
        return what == 1 ? lastWord(w, s, now.laid) : many == 0 ? NONE : many;
    }

    int last(int w) {
        if (noWriter(w)) {
            return BAD;
        }
        if (now.laid.contains(w)) {
            return STATE;
        }
        for (int s = 0; s < 5; s++) {
            if (lastWord(w, s, now.laid) == w) {
                return s;
            }
        }
        return NONE;
    }

    int bindsNobody(int w) {
        if (noWriter(w)) {
            return BAD;
        }
        int bits = 0;
        for (int s = 0; s < 5; s++) {
            bits += meantBy(writers, new Letter(w, s), now.laid) == NONE ? 1 << s : 0;
        }
        return bits;
    }

    // ---- dates

    /** The most in time over every order: what would be too late is put off for ever. */
    private int bestOrder(List<Quarrel> left, int day) {
        int best = 0;
        for (Quarrel x : left) {
            if (day + x.work <= x.printed + term) {
                List<Quarrel> rest = new ArrayList<>(left);
                rest.remove(x);
                best = Math.max(best, 1 + bestOrder(rest, day + x.work));
            }
        }
        return best;
    }

    int keeps(int w) {
        return noWriter(w) ? BAD : bestOrder(now.quarrels.stream().filter(q -> q.owes == w).toList(), now.day);
    }

    int lateFirst(int what) {
        if (not(what, 0, 1)) {
            return BAD;
        }
        Now then = now;
        for (int n = 1; n <= 200; n++) {
            Now next = nextDay(then);
            for (int q = 0; q < next.quarrels.size(); q++) {
                Quarrel x = next.quarrels.get(q);
                if (x.late && !then.quarrels.get(q).late && x.owes != NONE) {
                    return what == 0 ? n : x.owes;
                }
            }
            then = next;
        }
        return NONE;
    }

    int peace(int q) {
        if (noQuarrel(q)) {
            return BAD;
        }
        int best = NONE;
        for (int set = 0; set < 1 << writers.size(); set++) {
            boolean fewer = best == NONE || Integer.bitCount(set) < Integer.bitCount(best);
            if (fewer && endsIfLaid(q, set)) {
                best = set;
            }
        }
        return best;
    }

    private boolean endsIfLaid(int q, int set) {
        Now then = now;
        for (int w = writers.size() - 1; w >= 0; w--) {
            if ((set & 1 << w) != 0) {
                if (now.laid.contains(w)) {
                    return false;
                }
                then = laidDown(then, w);
            }
        }
        return endsFrom(then, q) != NONE;
    }

    // ---- what was found, odds

    int found(int w, int s, int x) {
        if (noLetter(w, s) || (x != -1 && noWriter(x))) {
            return BAD;
        }
        if (found.size() == 5) {
            return FULL;
        }
        found.add(new Finding(w, s, x));
        return found.size();
    }

    int forget() {
        int had = found.size();
        found.clear();
        return had;
    }

    int mayBe(int w, int s) {
        if (noLetter(w, s)) {
            return BAD;
        }
        int bits = 0;
        for (int v = 0; v < 10; v++) {
            List<Integer> near = new ArrayList<>(writers.get(w).near);
            near.set(s, v);
            List<Writer> other = new ArrayList<>(writers);
            other.set(w, new Writer(writers.get(w).pen, writers.get(w).hobby, near));
            boolean so = found.stream().allMatch(
                f -> meantBy(other, new Letter(f.w, f.s), Set.of()) == (f.x == -1 ? NONE : f.x));
            bits += so ? 1 << v : 0;
        }
        return bits;
    }

    int odds(int w, int s, int p, int what) {
        if (noLetter(w, s) || not(p, 0, 10) || not(what, 0, 1)) {
            return BAD;
        }
        if (now.laid.contains(w)) {
            return STATE;
        }
        BigInteger upper = oddsFrom(0, w, s, p, now.laid);
        BigInteger lower = BigInteger.TEN.pow(writers.size());
        BigInteger common = upper.gcd(lower);
        return (what == 0 ? upper : lower).divide(common).intValueExact();
    }

    /** Each from x on is away or not; of 10 for each writer, those who have no choice too. */
    private BigInteger oddsFrom(int x, int w, int s, int p, Set<Integer> laid) {
        if (x == writers.size()) {
            return lastWord(w, s, laid) == w ? BigInteger.ONE : BigInteger.ZERO;
        }
        if (x == w || now.laid.contains(x)) {
            return oddsFrom(x + 1, w, s, p, laid).multiply(BigInteger.TEN);
        }
        Set<Integer> away = new HashSet<>(laid);
        away.add(x);
        return oddsFrom(x + 1, w, s, p, away).multiply(BigInteger.valueOf(p))
            .add(oddsFrom(x + 1, w, s, p, laid).multiply(BigInteger.valueOf(10 - p)));
    }

    int most() {
        int who = NONE;
        for (int w = writers.size() - 1; w >= 0; w--) {
            if (lastWords(w) > 0 && (who == NONE || lastWords(w) >= lastWords(who))) {
                who = w;
            }
        }
        return who;
    }

    int titles(int a, int b) {
        if (noWriter(a) || noWriter(b) || a == b) {
            return BAD;
        }
        int alike = 0;
        for (int s = 0; s < 5; s++) {
            alike += writers.get(a).near.get(s).equals(writers.get(b).near.get(s)) ? 1 : 0;
        }
        return alike;
    }

    // ---- kinds, images

    int rate(int kind, int w) {
        if (noWriter(w) || not(kind, 0, 5)) {
            return NO;
        }
        int pen = writers.get(w).pen;
        long[] added = {1, 11, 101, 1011, 10101, 100001};
        int[] rates = {pen, pen + owed(now, w), pen - now.late.get(w), 2 * (pen + owed(now, w)),
            pen - now.late.get(w) + w, pen + lastWords(w)};
        trace += added[kind];
        return rates[kind];
    }

    int keep(int image) {
        if (not(image, 0, 1)) {
            return BAD;
        }
        images[image] = now;
        return now.day;
    }

    int back(int image) {
        if (not(image, 0, 1)) {
            return BAD;
        }
        if (images[image] == null) {
            return STATE;
        }
        now = images[image];
        undo.clear();
        return now.day;
    }

    int count(int what) {
        return switch (what) {
            case 0 -> writers.size();
            case 1 -> term;
            case 2 -> found.size();
            case 3 -> text.length();
            default -> BAD;
        };
    }

    long trace() {
        return trace;
    }
}
