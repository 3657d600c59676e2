/** Letters to the editor that have to be answered. The words of the document stand for what they name here. */
public final class LastWord {
    public static final int BAD = -1, STATE = -2, FULL = -3, NONE = -9;
    public static final int NO = -1000000;

    private static final int MOST_WRITERS = 6;
    private static final int WRITER_SETS = 1 << MOST_WRITERS;
    private static final int SUBJECTS = 5;
    private static final int NO_HOBBY = 5;
    private static final int MOST_NEAR = 9;
    private static final int MOST_PEN = 9;
    private static final int FIRST_TERM = 9;
    private static final int MOST_TERM = 20;
    private static final int MOST_QUARRELS = 6;
    private static final int QUARREL_SETS = 1 << MOST_QUARRELS;
    private static final int MOST_TEXT = 200;
    private static final int MOST_ITEMS = MOST_WRITERS + 1;
    private static final int MOST_NUMBER = 20;
    private static final int MOST_FOUND = 5;
    private static final int NOBODY_FOUND = -1;
    private static final int MOST_UNDONE = 10;
    private static final int IMAGES = 2;
    private static final int LAST_DAY = 999;
    private static final int FURTHEST_LOOK = 60;
    private static final int FURTHEST_END = 400;
    private static final int FURTHEST_LATE = 200;
    private static final int WHOLE = 10;

    private final Text text = new Text();
    private Page page = new Page();
    private Page spare = new Page();
    private final Affairs affairs = new Affairs();
    private final Affairs ahead = new Affairs();
    private final History history = new History();
    private final Album album = new Album();
    private final Findings findings = new Findings();
    private final Course course = new Course();
    private long asked;

    public LastWord() {
    }

    // ---- the paper

    public int type(int letter) {
        if (letter < 0 || letter > 255) {
            return BAD;
        }
        return text.add(letter);
    }

    public int clear() {
        return text.empty();
    }

    public int paper() {
        int items = text.readInto(spare);
        if (items < 0) {
            return items;
        }
        Page old = page;
        page = spare;
        spare = old;
        text.empty();
        affairs.beginAnew();
        history.drop();
        album.drop();
        findings.drop();
        return items;
    }

    public int writer(int w, int what) {
        if (!page.hasWriter(w) || what < 0 || what > 9) {
            return BAD;
        }
        switch (what) {
            case 0:
                return page.pen[w];
            case 1:
                return page.hobby[w];
            case 7:
                return affairs.hasLaid(w) ? 1 : 0;
            case 8:
                return affairs.owedBy(w);
            case 9:
                return affairs.lateTimes[w];
            default:
                return page.near[w][what - 2];
        }
    }

    public int quarrel(int q, int what) {
        if (!affairs.hasQuarrel(q)) {
            return BAD;
        }
        switch (what) {
            case 0:
                return affairs.author[q];
            case 1:
                return affairs.subject[q];
            case 2:
                return affairs.printedOn[q];
            case 3:
                return affairs.owes[q];
            case 4:
                return affairs.work[q];
            case 5:
                return affairs.late[q];
            default:
                return BAD;
        }
    }

    public int meant(int w, int s) {
        if (!mayStand(w, s)) {
            return BAD;
        }
        return page.answerer(w, s, affairs.laid);
    }

    public int now(int what) {
        switch (what) {
            case 0:
                return affairs.today;
            case 1:
                return affairs.quarrels;
            case 2:
                return affairs.closedBits();
            case 3:
                return affairs.letters;
            case 4:
                return history.known;
            default:
                return BAD;
        }
    }

    // ---- what is done

    public int writes(int w, int s) {
        if (!mayStand(w, s)) {
            return BAD;
        }
        if (affairs.hasLaid(w)) {
            return STATE;
        }
        if (affairs.quarrels >= MOST_QUARRELS) {
            return FULL;
        }
        history.remember(affairs);
        return affairs.begin(page, w, s);
    }

    public int day() {
        if (affairs.today >= LAST_DAY) {
            return STATE;
        }
        history.remember(affairs);
        return affairs.passDay(page);
    }

    public int lays(int w) {
        if (!page.hasWriter(w)) {
            return BAD;
        }
        if (affairs.hasLaid(w)) {
            return STATE;
        }
        history.remember(affairs);
        return affairs.layDown(page, w);
    }

    public int undo() {
        if (history.known == 0) {
            return STATE;
        }
        history.recall(affairs);
        return history.known;
    }

    // ---- how it goes

    public int inDays(int q, int n, int what) {
        if (!affairs.hasQuarrel(q) || n < 0 || n > FURTHEST_LOOK || what < 0 || what > 2) {
            return BAD;
        }
        ahead.copy(affairs);
        for (int i = 0; i < n; i++) {
            ahead.passDay(page);
        }
        if (what == 0) {
            return ahead.author[q];
        }
        return what == 1 ? ahead.subject[q] : ahead.owes[q];
    }

    public int ends(int q) {
        if (!affairs.hasQuarrel(q)) {
            return BAD;
        }
        ahead.copy(affairs);
        return daysTillClosed(q);
    }

    public int round(int w, int s, int what) {
        if (!mayStand(w, s) || what < 0 || what > 1) {
            return BAD;
        }
        if (affairs.hasLaid(w)) {
            return STATE;
        }
        course.follow(page, w, s, affairs.laid);
        return what == 0 ? course.length : course.lastAuthor;
    }

    public int last(int w) {
        if (!page.hasWriter(w)) {
            return BAD;
        }
        if (affairs.hasLaid(w)) {
            return STATE;
        }
        for (int s = 0; s < SUBJECTS; s++) {
            if (hasLastWord(w, s, affairs.laid)) {
                return s;
            }
        }
        return NONE;
    }

    public int bindsNobody(int w) {
        if (!page.hasWriter(w)) {
            return BAD;
        }
        int bits = 0;
        for (int s = 0; s < SUBJECTS; s++) {
            if (page.answerer(w, s, affairs.laid) == NONE) {
                bits |= 1 << s;
            }
        }
        return bits;
    }

    // ---- dates

    public int keeps(int w) {
        if (!page.hasWriter(w)) {
            return BAD;
        }
        int owed = affairs.owedBits(w);
        int best = 0;
        for (int set = 0; set < QUARREL_SETS; set++) {
            boolean owesAll = (set & ~owed) == 0;
            if (owesAll && Integer.bitCount(set) > best && affairs.canKeep(set, page.term)) {
                best = Integer.bitCount(set);
            }
        }
        return best;
    }

    public int lateFirst(int what) {
        if (what < 0 || what > 1) {
            return BAD;
        }
        ahead.copy(affairs);
        for (int n = 1; n <= FURTHEST_LATE; n++) {
            ahead.passDay(page);
            int q = ahead.firstNewlyLate(page.term);
            if (q != NONE) {
                return what == 0 ? n : ahead.owes[q];
            }
        }
        return NONE;
    }

    public int peace(int q) {
        if (!affairs.hasQuarrel(q)) {
            return BAD;
        }
        int free = page.everybody() & ~affairs.laid;
        for (int many = 0; many <= MOST_WRITERS; many++) {
            for (int set = 0; set < WRITER_SETS; set++) {
                boolean allFree = (set & ~free) == 0;
                if (allFree && Integer.bitCount(set) == many && endsWithout(q, set)) {
                    return set;
                }
            }
        }
        return NONE;
    }

    // ---- what was found, odds

    public int found(int w, int s, int x) {
        if (!mayStand(w, s) || (x != NOBODY_FOUND && !page.hasWriter(x))) {
            return BAD;
        }
        return findings.add(w, s, x);
    }

    public int forget() {
        return findings.drop();
    }

    public int mayBe(int w, int s) {
        if (!mayStand(w, s)) {
            return BAD;
        }
        int told = page.near[w][s];
        int bits = 0;
        for (int near = 0; near <= MOST_NEAR; near++) {
            page.near[w][s] = near;
            if (findings.areSo(page)) {
                bits |= 1 << near;
            }
        }
        page.near[w][s] = told;
        return bits;
    }

    public int odds(int w, int s, int p, int what) {
        if (!mayStand(w, s) || p < 0 || p > WHOLE || what < 0 || what > 1) {
            return BAD;
        }
        if (affairs.hasLaid(w)) {
            return STATE;
        }
        int others = page.everybody() & ~affairs.laid & ~(1 << w);
        int many = Integer.bitCount(others);
        int upper = 0;
        for (int away = 0; away < WRITER_SETS; away++) {
            if ((away & ~others) == 0 && hasLastWord(w, s, affairs.laid | away)) {
                int gone = Integer.bitCount(away);
                upper += power(p, gone) * power(WHOLE - p, many - gone);
            }
        }
        int lower = power(WHOLE, many);
        int common = commonDivisor(upper, lower);
        // a lower number is 1 at least, so this never happens; the divisor is looked at all the same
        if (common == 0) {
            return NONE;
        }
        return what == 0 ? upper / common : lower / common;
    }

    public int most() {
        int who = NONE;
        int best = 0;
        for (int w = 0; w < page.writers; w++) {
            int words = affairs.lastWordsOf(w);
            if (words > best) {
                best = words;
                who = w;
            }
        }
        return who;
    }

    public int titles(int a, int b) {
        if (!page.hasWriter(a) || !page.hasWriter(b) || a == b) {
            return BAD;
        }
        int alike = 0;
        for (int s = 0; s < SUBJECTS; s++) {
            if (page.near[a][s] == page.near[b][s]) {
                alike++;
            }
        }
        return alike;
    }

    // ---- kinds, images

    public int rate(int kind, int w) {
        if (!page.hasWriter(w)) {
            return NO;
        }
        switch (kind) {
            case 0:
                return rateOfWriter(w);
            case 1:
                return rateOfColonel(w);
            case 2:
                return rateOfDuke(w);
            case 3:
                return rateOfVicar(w);
            case 4:
                return rateOfPoet(w);
            case 5:
                return rateOfHeir(w);
            default:
                return NO;
        }
    }

    public int keep(int image) {
        if (!album.hasPlace(image)) {
            return BAD;
        }
        album.put(image, affairs);
        return affairs.today;
    }

    public int back(int image) {
        if (!album.hasPlace(image)) {
            return BAD;
        }
        if (!album.isKept(image)) {
            return STATE;
        }
        album.take(image, affairs);
        history.drop();
        return affairs.today;
    }

    public int count(int what) {
        switch (what) {
            case 0:
                return page.writers;
            case 1:
                return page.term;
            case 2:
                return findings.many;
            case 3:
                return text.length;
            default:
                return BAD;
        }
    }

    public long trace() {
        return asked;
    }

    /** Whether there is such a writer and such a subject. */
    private boolean mayStand(int w, int s) {
        return page.hasWriter(w) && s >= 0 && s < SUBJECTS;
    }

    private boolean hasLastWord(int w, int s, int laid) {
        course.follow(page, w, s, laid);
        return course.lastAuthor == w;
    }

    /** Lets days go by in what is ahead till the quarrel is closed. */
    private int daysTillClosed(int q) {
        // who answers whom does not hang on days: what goes round needs no days to tell
        course.follow(page, ahead.author[q], ahead.subject[q], ahead.laid);
        if (course.length == NONE) {
            return NONE;
        }
        for (int n = 0; n <= FURTHEST_END; n++) {
            if (ahead.owes[q] == NONE) {
                return n;
            }
            ahead.passDay(page);
        }
        return NONE;
    }

    private boolean endsWithout(int q, int set) {
        ahead.copy(affairs);
        for (int w = 0; w < page.writers; w++) {
            if ((set >> w & 1) == 1) {
                ahead.layDown(page, w);
            }
        }
        return daysTillClosed(q) != NONE;
    }

    private int rateOfWriter(int w) {
        asked += 1;
        return page.pen[w];
    }

    private int rateOfColonel(int w) {
        asked += 10;
        return rateOfWriter(w) + affairs.owedBy(w);
    }

    private int rateOfDuke(int w) {
        asked += 100;
        return rateOfWriter(w) - affairs.lateTimes[w];
    }

    private int rateOfVicar(int w) {
        asked += 1000;
        return 2 * rateOfColonel(w);
    }

    private int rateOfPoet(int w) {
        asked += 10000;
        return rateOfDuke(w) + w;
    }

    private int rateOfHeir(int w) {
        asked += 100000;
        return rateOfWriter(w) + affairs.lastWordsOf(w);
    }

    private static int power(int base, int exponent) {
        int product = 1;
        for (int i = 0; i < exponent; i++) {
            product *= base;
        }
        return product;
    }

    /** Each step makes the smaller number smaller, so as many steps as b tells are enough. */
    private static int commonDivisor(int a, int b) {
        int x = a;
        int y = b;
        for (int i = 0; i <= b && y != 0; i++) {
            int rest = x % y;
            x = y;
            y = rest;
        }
        return x;
    }

    /** The text as it is typed, and how it is read. */
    private static final class Text {
        private static final int END = -1, NUMBER = -2, WRONG = -3;

        final int[] letters = new int[MOST_TEXT];
        int length;

        private int place;
        private boolean termTold;
        // the token read last: where it begins, which it is (a sign, or one of the above), a number's value
        private int start;
        private int token;
        private int value;

        int add(int letter) {
            if (length >= MOST_TEXT) {
                return FULL;
            }
            letters[length] = letter;
            length++;
            return length;
        }

        int empty() {
            int had = length;
            length = 0;
            return had;
        }

        /** How many items there are, all of them on the page then; or -10 less the fault's place. */
        int readInto(Page target) {
            target.blank();
            place = 0;
            termTold = false;
            for (int items = 0; items <= MOST_ITEMS; items++) {
                nextToken();
                if (token == END) {
                    return items;
                }
                boolean told = token == 'w' ? readWriter(target) : token == 't' && readTerm(target);
                if (!told || !readSemicolon()) {
                    break;
                }
            }
            return -10 - start;
        }

        private boolean readWriter(Page target) {
            int w = target.writers;
            if (w >= MOST_WRITERS || !readNumber(1, MOST_PEN)) {
                return false;
            }
            target.pen[w] = value;
            if (!readNumber(0, NO_HOBBY)) {
                return false;
            }
            target.hobby[w] = value;
            for (int s = 0; s < SUBJECTS; s++) {
                if (!readNumber(0, MOST_NEAR)) {
                    return false;
                }
                target.near[w][s] = value;
            }
            target.writers = w + 1;
            return true;
        }

        private boolean readTerm(Page target) {
            if (termTold || !readNumber(1, MOST_TERM)) {
                return false;
            }
            termTold = true;
            target.term = value;
            return true;
        }

        private boolean readSemicolon() {
            nextToken();
            return token == ';';
        }

        private boolean readNumber(int least, int most) {
            nextToken();
            return token == NUMBER && value >= least && value <= most;
        }

        private void nextToken() {
            while (place < length && letters[place] == ' ') {
                place++;
            }
            start = place;
            if (place >= length) {
                token = END;
            } else if (isDigit(letters[place])) {
                takeDigits();
            } else {
                int sign = letters[place];
                token = sign == 'w' || sign == 't' || sign == ';' ? sign : WRONG;
                place++;
            }
        }

        private void takeDigits() {
            value = 0;
            while (place < length && isDigit(letters[place])) {
                // what is too large already stays so, however many digits there are
                if (value <= MOST_NUMBER) {
                    value = value * 10 + letters[place] - '0';
                }
                place++;
            }
            boolean zeroAhead = letters[start] == '0' && place - start > 1;
            token = zeroAhead || value > MOST_NUMBER ? WRONG : NUMBER;
        }

        private static boolean isDigit(int letter) {
            return letter >= '0' && letter <= '9';
        }
    }

    /** What the text told: the writers and the term. */
    private static final class Page {
        int writers;
        int term = FIRST_TERM;
        final int[] pen = new int[MOST_WRITERS];
        final int[] hobby = new int[MOST_WRITERS];
        final int[][] near = new int[MOST_WRITERS][SUBJECTS];

        void blank() {
            writers = 0;
            term = FIRST_TERM;
        }

        boolean hasWriter(int w) {
            return w >= 0 && w < writers;
        }

        int everybody() {
            return (1 << writers) - 1;
        }

        /** Who is meant by a letter of w on s, if those in the bits have laid down the pen. */
        int answerer(int w, int s, int laid) {
            int nearest = NONE;
            int best = 0;
            for (int x = 0; x < writers; x++) {
                boolean may = x != w && (laid >> x & 1) == 0;
                if (may && near[x][s] > best) {
                    best = near[x][s];
                    nearest = x;
                }
            }
            return nearest;
        }

        /** What w writes about when he answers a letter on s. */
        int answerOn(int w, int s) {
            return hobby[w] == NO_HOBBY ? s : hobby[w];
        }
    }

    /** How a letter is answered on and on. */
    private static final class Course {
        private static final int UNLIKE_LETTERS = MOST_WRITERS * SUBJECTS;

        int length;
        int lastAuthor;

        void follow(Page page, int w, int s, int laid) {
            int author = w;
            int subject = s;
            // who wrote on what is all that tells the next letter: beyond so many, one comes again
            for (int n = 1; n <= UNLIKE_LETTERS; n++) {
                int next = page.answerer(author, subject, laid);
                if (next == NONE) {
                    length = n;
                    lastAuthor = author;
                    return;
                }
                subject = page.answerOn(next, subject);
                author = next;
            }
            length = NONE;
            lastAuthor = NONE;
        }
    }

    /** All that days change: quarrels, who laid down, how often each was late. */
    private static final class Affairs {
        int today;
        int letters;
        int quarrels;
        int laid;
        final int[] lateTimes = new int[MOST_WRITERS];
        final int[] author = new int[MOST_QUARRELS];
        final int[] subject = new int[MOST_QUARRELS];
        final int[] printedOn = new int[MOST_QUARRELS];
        final int[] owes = new int[MOST_QUARRELS];
        final int[] work = new int[MOST_QUARRELS];
        final int[] late = new int[MOST_QUARRELS];

        void copy(Affairs from) {
            today = from.today;
            letters = from.letters;
            quarrels = from.quarrels;
            laid = from.laid;
            System.arraycopy(from.lateTimes, 0, lateTimes, 0, MOST_WRITERS);
            System.arraycopy(from.author, 0, author, 0, MOST_QUARRELS);
            System.arraycopy(from.subject, 0, subject, 0, MOST_QUARRELS);
            System.arraycopy(from.printedOn, 0, printedOn, 0, MOST_QUARRELS);
            System.arraycopy(from.owes, 0, owes, 0, MOST_QUARRELS);
            System.arraycopy(from.work, 0, work, 0, MOST_QUARRELS);
            System.arraycopy(from.late, 0, late, 0, MOST_QUARRELS);
        }

        void beginAnew() {
            today = 0;
            letters = 0;
            quarrels = 0;
            laid = 0;
            for (int w = 0; w < MOST_WRITERS; w++) {
                lateTimes[w] = 0;
            }
        }

        boolean hasQuarrel(int q) {
            return q >= 0 && q < quarrels;
        }

        boolean hasLaid(int w) {
            return (laid >> w & 1) == 1;
        }

        int owedBits(int w) {
            int bits = 0;
            for (int q = 0; q < quarrels; q++) {
                if (owes[q] == w) {
                    bits |= 1 << q;
                }
            }
            return bits;
        }

        int owedBy(int w) {
            return Integer.bitCount(owedBits(w));
        }

        int closedBits() {
            return owedBits(NONE);
        }

        int lastWordsOf(int w) {
            int words = 0;
            for (int q = 0; q < quarrels; q++) {
                if (owes[q] == NONE && author[q] == w) {
                    words++;
                }
            }
            return words;
        }

        /** There has to be room for one more. */
        int begin(Page page, int w, int s) {
            int q = quarrels;
            quarrels++;
            print(page, q, w, s);
            return q;
        }

        int layDown(Page page, int w) {
            int owed = owedBits(w);
            laid |= 1 << w;
            for (int q = 0; q < quarrels; q++) {
                if ((owed >> q & 1) == 1) {
                    charge(page, q);
                }
            }
            return Integer.bitCount(owed);
        }

        int passDay(Page page) {
            for (int w = 0; w < page.writers; w++) {
                int q = onDeskOf(w);
                if (q != NONE) {
                    work[q]--;
                }
            }
            today++;
            int answers = 0;
            for (int q = 0; q < quarrels; q++) {
                int w = owes[q];
                if (w == NONE) {
                    continue;
                }
                if (work[q] == 0) {
                    print(page, q, w, page.answerOn(w, subject[q]));
                    answers++;
                } else if (turnsLate(q, page.term)) {
                    late[q] = 1;
                    lateTimes[w]++;
                }
            }
            return answers;
        }

        /** The lowest quarrel that turned late as the day came; none can turn late on the day of its letter. */
        int firstNewlyLate(int term) {
            for (int q = 0; q < quarrels; q++) {
                if (owes[q] != NONE && turnsLate(q, term)) {
                    return q;
                }
            }
            return NONE;
        }

        /** Whether all of a set can be printed in time by one pen: the earliest due first is as good as any order. */
        boolean canKeep(int set, int term) {
            for (int q = 0; q < quarrels; q++) {
                if ((set >> q & 1) == 1 && today + workUpTo(set, printedOn[q]) > printedOn[q] + term) {
                    return false;
                }
            }
            return true;
        }

        private int workUpTo(int set, int lastPrinted) {
            int sum = 0;
            for (int q = 0; q < quarrels; q++) {
                if ((set >> q & 1) == 1 && printedOn[q] <= lastPrinted) {
                    sum += work[q];
                }
            }
            return sum;
        }

        private boolean turnsLate(int q, int term) {
            return today - printedOn[q] == term;
        }

        private int onDeskOf(int w) {
            int first = NONE;
            for (int q = 0; q < quarrels; q++) {
                if (owes[q] == w && (first == NONE || printedOn[q] < printedOn[first])) {
                    first = q;
                }
            }
            return first;
        }

        private void print(Page page, int q, int w, int s) {
            author[q] = w;
            subject[q] = s;
            printedOn[q] = today;
            late[q] = 0;
            letters++;
            charge(page, q);
        }

        private void charge(Page page, int q) {
            int w = page.answerer(author[q], subject[q], laid);
            owes[q] = w;
            work[q] = w == NONE ? 0 : page.pen[w];
        }
    }

    /** What can be undone: the latest ones, in a ring. */
    private static final class History {
        final Affairs[] ring = new Affairs[MOST_UNDONE];
        int known;
        private int next;

        History() {
            for (int i = 0; i < MOST_UNDONE; i++) {
                ring[i] = new Affairs();
            }
        }

        void remember(Affairs affairs) {
            ring[next].copy(affairs);
            next = (next + 1) % MOST_UNDONE;
            known = Math.min(known + 1, MOST_UNDONE);
        }

        /** There has to be one. */
        void recall(Affairs affairs) {
            next = (next + MOST_UNDONE - 1) % MOST_UNDONE;
            known--;
            affairs.copy(ring[next]);
        }

        void drop() {
            known = 0;
        }
    }

    /** The images. */
    private static final class Album {
        final Affairs[] images = new Affairs[IMAGES];
        private int kept;

        Album() {
            for (int i = 0; i < IMAGES; i++) {
                images[i] = new Affairs();
            }
        }

        boolean hasPlace(int image) {
            return image >= 0 && image < IMAGES;
        }

        boolean isKept(int image) {
            return (kept >> image & 1) == 1;
        }

        void put(int image, Affairs affairs) {
            images[image].copy(affairs);
            kept |= 1 << image;
        }

        void take(int image, Affairs affairs) {
            affairs.copy(images[image]);
        }

        void drop() {
            kept = 0;
        }
    }

    /** Who was found to be meant by what. */
    private static final class Findings {
        int many;
        private final int[] author = new int[MOST_FOUND];
        private final int[] subject = new int[MOST_FOUND];
        private final int[] answerer = new int[MOST_FOUND];

        int add(int w, int s, int x) {
            if (many >= MOST_FOUND) {
                return FULL;
            }
            author[many] = w;
            subject[many] = s;
            answerer[many] = x == NOBODY_FOUND ? NONE : x;
            many++;
            return many;
        }

        int drop() {
            int had = many;
            many = 0;
            return had;
        }

        /** Whether a page bears out all of them, as if nobody had laid down the pen. */
        boolean areSo(Page page) {
            for (int i = 0; i < many; i++) {
                if (page.answerer(author[i], subject[i], 0) != answerer[i]) {
                    return false;
                }
            }
            return true;
        }
    }
}
