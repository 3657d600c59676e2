import java.util.ArrayList;
import java.util.List;

/** Section 1 and promises 1 to 4 at their edges: the text, and what it tells anew. */
public final class EdgeTextTest {
    private static final int BAD = LastWord.BAD;
    private static final int STATE = LastWord.STATE;
    private static final int FULL = LastWord.FULL;
    private static final String PLAIN = "w1 5 0 0 0 0 0;";

    public static void main(String[] args) {
        textAtMost();
        textFullAndRead();
        textCleared();
        noText();
        endsTooEarly();
        everyToken();
        everyLetterAhead();
        everyLetterBehind();
        everyLetterInANumber();
        onlyBlanksAreBlanks();
        numbersAtTheirEdges();
        numbersAboveTwenty();
        zeroAhead();
        writersAtMost();
        termOnceAtMost();
        theFirstFault();
        faultAndOn();
        noWritersAtFirst();
        sixWriters();
        termAtFirst();
        toldAnew();
        Check.end();
    }

    private static void paper(String why, String text, int want) {
        LastWord x = new LastWord();
        Check.type(x, text);
        Check.due("4 " + why + ": '" + text + "'", want, x.paper());
        Check.due("4 letters behind it", want < 0 ? text.length() : 0, x.count(3));
    }

    private static void fault(String why, String text, int place) {
        paper(why, text, -10 - place);
    }

    // "a text (200 letters at most)", "A letter (0 .. 255) comes to THE TEXT: how many it has. BAD; FULL."

    private static void textAtMost() {
        LastWord x = new LastWord();
        for (int many = 1; many <= 200; many++) {
            Check.due("2 type() of letter " + many, many, x.type((many * 37) % 256));
            Check.due("30 count(3)", many, x.count(3));
        }
        Check.due("2 the 201st", FULL, x.type(0));
        Check.due("2 the 201st", FULL, x.type(255));
        Check.due("2 BAD comes ahead of FULL", BAD, x.type(-1));
        Check.due("2 BAD comes ahead of FULL", BAD, x.type(256));
        Check.due("30 count(3) stays", 200, x.count(3));
        Check.due("3 clear() of a full text", 200, x.clear());
        Check.due("2 type() then", 1, x.type(32));
    }

    private static void textFullAndRead() {
        String six = "t20;" + PLAIN.repeat(6);
        paper("a full text", six + " ".repeat(200 - six.length()), 7);
        paper("a full text", " ".repeat(200 - six.length()) + six, 7);
        paper("200 blanks", " ".repeat(200), 0);
        fault("the last letter of a full text", " ".repeat(199) + "x", 199);
        fault("a full text ends too early", "t5" + " ".repeat(198), 200);
        fault("a full text ends too early", " ".repeat(199) + "w", 200);
        LastWord x = new LastWord();
        Check.type(x, " ".repeat(197) + "t6;");
        Check.due("2 the 201st", FULL, x.type('x'));
        Check.due("4 what was refused is not read", 1, x.paper());
        Check.due("2 type() behind paper()", 1, x.type('t'));
    }

    private static void textCleared() {
        LastWord x = new LastWord();
        Check.due("3 clear() of no text", 0, x.clear());
        x.type('w');
        Check.due("3 clear() of one letter", 1, x.clear());
        Check.due("3 clear() again", 0, x.clear());
        Check.due("4 paper() of no text", 0, x.paper());
    }

    private static void noText() {
        paper("no text", "", 0);
        paper("a blank", " ", 0);
        LastWord x = Check.told("t3;" + PLAIN);
        x.writes(0, 0);
        Check.due("4 no text tells that there is nothing", 0, x.paper());
        Check.due("4 no WRITERS", 0, x.count(0));
        Check.due("4 TERM as at first", 9, x.count(1));
        Check.due("4 no QUARRELS", 0, x.now(1));
    }

    // "the text's length, if it ends too early", "ITEMS, each ended by ;"

    private static void endsTooEarly() {
        String whole = " w9 5 9 0 1 2 3; t20 ;w1 0 0 0 0 0 0 ;";
        for (int length = 0; length <= whole.length(); length++) {
            String text = whole.substring(0, length);
            String rest = text.substring(text.lastIndexOf(';') + 1);
            int items = text.length() - text.replace(";", "").length();
            paper("cut at " + length, text, rest.isBlank() ? items : -10 - length);
        }
        fault("blanks count to the length", "t5   ", 5);
        fault("blanks count to the length", "w   ", 4);
        fault("the last ITEM has to be ended too", "t5;" + PLAIN + "w1 5 0 0 0 0 0", 32);
    }

    // "FAULT: the place of the first letter of the first TOKEN that can't stand there"

    /** What may stand at a place: a sign, or a number from low to high. */
    private record Place(String right, String signs, int low, int high) {
        boolean takes(String token) {
            if (token.matches("0|[1-9][0-9]?")) {
                int number = Integer.parseInt(token);
                return number >= low && number <= high;
            }
            return signs.contains(token);
        }
    }

    private static void item(List<Place> places, String heads, String... numbers) {
        places.add(new Place(numbers.length == 1 ? "t" : "w", heads, 1, 0));
        int[] least = {1, 0, 0, 0, 0, 0, 0};
        int[] most = {numbers.length == 1 ? 20 : 9, 5, 9, 9, 9, 9, 9};
        for (int i = 0; i < numbers.length; i++) {
            places.add(new Place(numbers[i], "", least[i], most[i]));
        }
        places.add(new Place(";", ";", 1, 0));
    }

    private static void everyToken() {
        List<Place> places = new ArrayList<>();
        item(places, "wt", "1", "5", "0", "9", "0", "9", "0");
        item(places, "wt", "9");
        item(places, "w", "9", "0", "1", "2", "3", "4", "5");
        List<String> tokens = new ArrayList<>(List.of("w", "t", ";", "x", "W", "T", ":", "-", "21", "22", "99", "100"));
        tokens.addAll(List.of("00", "01", "05", "09", "010", "020", "1234567890123"));
        for (int number = 0; number <= 20; number++) {
            tokens.add(Integer.toString(number));
        }
        StringBuilder ahead = new StringBuilder();
        int items = 0;
        for (Place place : places) {
            for (String token : tokens) {
                String text = ahead + token;
                if (!place.takes(token)) {
                    fault("can't stand there", text, ahead.length());
                    fault("can't stand there", text + " 1 1 1 ; x", ahead.length());
                } else {
                    paper("can stand there", text, token.equals(";") ? items + 1 : -10 - text.length());
                }
            }
            ahead.append(place.right).append(' ');
            items += place.right.equals(";") ? 1 : 0;
        }
    }

    // "of any other letter [..] that TOKEN's"

    private static boolean isDigit(int letter) {
        return letter >= '0' && letter <= '9';
    }

    private static void everyLetterAhead() {
        for (int letter = 0; letter < 256; letter++) {
            boolean head = letter == 'w' || letter == 't';
            String text = Character.toString(letter);
            if (letter == ' ') {
                paper("a blank ahead", text + PLAIN, 1);
            } else {
                fault("letter " + letter + " ahead", text, head ? 1 : 0);
                fault("letter " + letter + " ahead", text + PLAIN, head ? 1 : 0);
                fault("letter " + letter + " behind", PLAIN + text, head ? 16 : 15);
            }
        }
    }

    private static void everyLetterBehind() {
        for (int letter = 0; letter < 256; letter++) {
            String text = "t5" + (char) letter;
            if (letter == ';') {
                paper("letter ;", text, 1);
            } else if (letter == ' ') {
                fault("a blank behind a NUMBER", text, 3);
            } else {
                fault("letter " + letter + " behind a NUMBER", text + ";", isDigit(letter) ? 1 : 2);
            }
        }
    }

    private static void everyLetterInANumber() {
        for (int letter = 0; letter < 256; letter++) {
            String text = "t1" + (char) letter + "2;";
            if (letter == ' ' || letter == ';') {
                fault("two NUMBERS", text, 3);
            } else {
                fault("letter " + letter + " in a NUMBER", text, isDigit(letter) ? 1 : 2);
            }
        }
    }

    // "blanks (32) between TOKENS"

    private static void onlyBlanksAreBlanks() {
        paper("no blanks but between NUMBERS", "t9;w1 5 0 0 0 0 0;", 2);
        paper("blanks everywhere", "  t   9  ;  w  1  5  0  0  0  0  0  ;  ", 2);
        int[] likeBlanks = {0, 9, 10, 11, 12, 13, 28, 31, 33, 95, 133, 160, 255};
        for (int letter : likeBlanks) {
            fault("letter " + letter + " is no blank", "t" + (char) letter + "9;", 1);
            fault("letter " + letter + " is no blank", "t9" + (char) letter + ";", 2);
        }
        fault("NUMBERS without a blank are one", "w150 0 0 0 0;", 1);
        fault("NUMBERS without a blank are one", "w1 50 0 0 0 0;", 3);
        fault("a NUMBER in two is two", "t1 2;", 3);
    }

    // "NEAR (0 .. 9)", "a PEN (1 .. 9)", "a HOBBY (a SUBJECT; 5: none)", "TERM (1 .. 20 ..)"

    private static String with(int place, int number) {
        StringBuilder text = new StringBuilder("w");
        for (int i = 0; i < 7; i++) {
            text.append(i == place ? number : 1).append(i < 6 ? " " : ";");
        }
        return text.toString();
    }

    private static void numbersAtTheirEdges() {
        int[] least = {1, 0, 0, 0, 0, 0, 0};
        int[] most = {9, 5, 9, 9, 9, 9, 9};
        for (int place = 0; place < 7; place++) {
            for (int number = least[place]; number <= most[place]; number++) {
                Check.due("5 writer(0, " + place + ")", number, Check.told(with(place, number)).writer(0, place));
            }
            fault("beyond what it may be", with(place, most[place] + 1), 1 + 2 * place);
            fault("beyond what it may be", with(place, 20), 1 + 2 * place);
        }
        fault("PEN 0", with(0, 0), 1);
        fault("PEN -1", with(0, -1), 1);
        for (int term = 1; term <= 20; term++) {
            Check.due("30 TERM " + term, term, Check.told("t" + term + ";").count(1));
        }
        fault("TERM 0", "t0;", 1);
        fault("TERM 21", "t21;", 1);
        fault("TERM -1", "t-1;", 1);
    }

    // "a NUMBER above 20 or with a 0 ahead of others, that TOKEN's"

    private static void numbersAboveTwenty() {
        String[] numbers = {"21", "29", "30", "99", "100", "109", "200", "255", "256", "257", "265", "65537", "65541",
            "2147483647", "2147483648", "4294967295", "4294967296", "4294967297", "4294967305", "8589934593",
            "18446744073709551617", "18446744073709551621", "1" + "0".repeat(90), "9".repeat(90)};
        for (String number : numbers) {
            fault("above 20", "t  " + number + " ;", 3);
            fault("above 20", "w1 " + number + " 0 0 0 0 0;", 3);
            fault("above 20 where none may stand", number, 0);
            fault("above 20 where ; has to stand", "t5 " + number, 3);
        }
    }

    private static void zeroAhead() {
        String[] numbers = {"00", "01", "05", "09", "010", "020", "021", "000", "001", "0" + "0".repeat(90)};
        for (String number : numbers) {
            fault("a 0 ahead", "t " + number + ";", 2);
            fault("a 0 ahead", "w1 5 " + number + " 0 0 0 0;", 5);
            fault("a 0 ahead where none may stand", " " + number, 1);
        }
        paper("a 0 alone", "w1 0 0 0 0 0 0;", 1);
        paper("a 0 behind", "t10;", 1);
        paper("a 0 behind", "t20;", 1);
    }

    // "WRITERS 0 .. (6 at most)", "a seventh w"

    private static void writersAtMost() {
        for (int many = 0; many <= 6; many++) {
            paper("WRITERS", PLAIN.repeat(many), many);
            paper("WRITERS and TERM", PLAIN.repeat(many) + "t1;", many + 1);
            Check.due("30 count(0)", many, Check.told(PLAIN.repeat(many)).count(0));
        }
        fault("a seventh w", PLAIN.repeat(7), 90);
        fault("a seventh w", PLAIN.repeat(6) + " w", 91);
        fault("a seventh w behind t", PLAIN.repeat(6) + "t1; w", 94);
        fault("a seventh w with t ahead", "t1;" + PLAIN.repeat(7), 93);
        fault("a seventh w with t between", PLAIN.repeat(3) + "t1;" + PLAIN.repeat(4), 93);
        fault("a seventh w, not what is behind it", PLAIN.repeat(6) + "w0 x", 90);
        fault("the sixth w may stand", PLAIN.repeat(5) + "w0", 76);
        fault("t may stand behind six", PLAIN.repeat(6) + "t0", 91);
    }

    // "t N (TERM; once at most)", "t again"

    private static void termOnceAtMost() {
        fault("t again", "t5;t5;", 3);
        fault("t again", "t5;t6;", 3);
        fault("t again, not what is behind it", "t5; t0;", 4);
        fault("t again behind a WRITER", "t5;" + PLAIN + "t5;", 18);
        fault("t again behind six", "t5;" + PLAIN.repeat(6) + "t5;", 93);
        fault("t again as the eighth ITEM", PLAIN.repeat(6) + "t5;t5;", 93);
        fault("t that was told wrong", "t0;t5;", 1);
        LastWord x = Check.told("t5;");
        Check.type(x, "t6;");
        Check.due("4 t in another text", 1, x.paper());
        Check.due("30 TERM", 6, x.count(1));
    }

    private static void theFirstFault() {
        fault("of two", "t0;t0;", 1);
        fault("of two", "t0 x", 1);
        fault("of two", "x t0", 0);
        fault("of two", "w0 6 10 0 0 0 0;", 1);
        fault("of two", "w1 6 10 0 0 0 0;", 3);
        fault("ahead of the text's end", "w1 6", 3);
        fault("ahead of another letter behind it", "t5 5 x", 3);
        fault("ahead of a NUMBER above 20 behind it", "t5;5 21", 3);
        fault("another letter ahead of what can't stand there", "t5;x t6;", 3);
    }

    // "-10 less FAULT: nothing changes."

    private static void faultAndOn() {
        LastWord x = new LastWord();
        Check.type(x, "t1");
        Check.due("4 ends too early", -12, x.paper());
        Check.due("4 again", -12, x.paper());
        Check.due("2 the text goes on", 3, x.type('9'));
        Check.due("4 ends too early", -13, x.paper());
        Check.due("30 TERM stays", 9, x.count(1));
        x.type(';');
        Check.due("4 paper()", 1, x.paper());
        Check.due("30 TERM", 19, x.count(1));
        Check.type(x, PLAIN + "t2;t3;");
        Check.due("4 t again", -10 - 18, x.paper());
        Check.due("30 TERM stays", 19, x.count(1));
        Check.due("30 WRITERS stay", 0, x.count(0));
        Check.due("3 clear()", 21, x.clear());
        Check.type(x, PLAIN);
        Check.due("4 nothing is left of what was told wrong", 1, x.paper());
        Check.due("30 TERM as at first", 9, x.count(1));
    }

    // "As told; no WRITERS."

    private static void noWritersAtFirst() {
        LastWord x = new LastWord();
        Check.due("1 WRITERS", 0, x.count(0));
        Check.due("1 writer(0, 0)", BAD, x.writer(0, 0));
        Check.due("1 meant(0, 0)", BAD, x.meant(0, 0));
        Check.due("1 writes(0, 0)", BAD, x.writes(0, 0));
        Check.due("1 lays(0)", BAD, x.lays(0));
        Check.due("1 round(0, 0, 0)", BAD, x.round(0, 0, 0));
        Check.due("1 last(0)", BAD, x.last(0));
        Check.due("1 bindsNobody(0)", BAD, x.bindsNobody(0));
        Check.due("1 keeps(0)", BAD, x.keeps(0));
        Check.due("1 found(0, 0, -1)", BAD, x.found(0, 0, -1));
        Check.due("1 mayBe(0, 0)", BAD, x.mayBe(0, 0));
        Check.due("1 odds(0, 0, 0, 0)", BAD, x.odds(0, 0, 0, 0));
        Check.due("1 titles(0, 1)", BAD, x.titles(0, 1));
        Check.due("1 rate(0, 0)", LastWord.NO, x.rate(0, 0));
        Check.due("1 most()", LastWord.NONE, x.most());
        Check.due("1 lateFirst(0)", LastWord.NONE, x.lateFirst(0));
        Check.due("1 lateFirst(1)", LastWord.NONE, x.lateFirst(1));
        Check.due("1 forget()", 0, x.forget());
        Check.due("1 keep(0)", 0, x.keep(0));
        Check.due("1 day()", 0, x.day());
        Check.due("1 back(0)", 0, x.back(0));
        Check.due("1 trace()", 0, x.trace());
    }

    private static void sixWriters() {
        LastWord x = Check.told("w1 0 0 1 2 3 4;w2 1 1 2 3 4 5;w3 2 2 3 4 5 6;w4 3 3 4 5 6 7;w5 4 4 5 6 7 8;w6 5 5 6 7 8 9;");
        for (int w = 0; w < 6; w++) {
            Check.due("5 PEN of " + w, w + 1, x.writer(w, 0));
            Check.due("5 HOBBY of " + w, w, x.writer(w, 1));
            for (int s = 0; s < 5; s++) {
                Check.due("5 NEAR of " + w + " to " + s, w + s, x.writer(w, 2 + s));
            }
            Check.due("5 LAID of " + w, 0, x.writer(w, 7));
            Check.due("5 OWED by " + w, 0, x.writer(w, 8));
            Check.due("5 LATE of " + w, 0, x.writer(w, 9));
        }
        Check.due("5 a seventh", BAD, x.writer(6, 0));
        LastWord one = Check.told(PLAIN);
        Check.due("5 the only one", 1, one.writer(0, 0));
        Check.due("5 a second", BAD, one.writer(1, 0));
    }

    // "TERM (1 .. 20; 9 at first)"

    private static void termAtFirst() {
        Check.due("1 TERM", 9, new LastWord().count(1));
        Check.due("4 TERM not told", 9, Check.told(PLAIN).count(1));
        LastWord x = Check.told("w1 5 0 0 0 0 0;w9 5 9 0 0 0 0;");
        x.writes(0, 0);
        x.writes(0, 0);
        Check.days(x, 8);
        Check.due("10 8 DAYS ago", 0, x.quarrel(1, 5));
        x.day();
        Check.due("10 9 DAYS ago", 1, x.quarrel(1, 5));
        Check.due("10 printed in 9 DAYS", 0, x.quarrel(0, 5));
    }

    // "(Read anew: as told, no QUARRELS, nothing FOUND, IMAGES are gone.)"

    private static void toldAnew() {
        LastWord x = States.full();
        Check.due("8 QUARRELS ahead", 6, x.now(1));
        Check.due("8 UNDONE ahead", 10, x.now(4));
        Check.due("30 FOUND ahead", 5, x.count(2));
        Check.due("5 LAID ahead", 1, x.writer(5, 7));
        x.clear();
        Check.type(x, States.SIX);
        Check.due("4 paper()", 7, x.paper());
        for (int what = 0; what < 5; what++) {
            Check.due("8 now(" + what + ") anew", 0, x.now(what));
        }
        for (int w = 0; w < 6; w++) {
            Check.due("5 LAID anew", 0, x.writer(w, 7));
            Check.due("5 OWED anew", 0, x.writer(w, 8));
            Check.due("5 LATE anew", 0, x.writer(w, 9));
            Check.due("23 nothing FOUND anew", 1023, x.mayBe(w, 0));
        }
        Check.due("6 no QUARRELS anew", BAD, x.quarrel(0, 0));
        Check.due("12 undo() anew", STATE, x.undo());
        Check.due("29 IMAGE 0 is gone", STATE, x.back(0));
        Check.due("29 IMAGE 1 is gone", STATE, x.back(1));
        Check.due("21 the first FOUND anew", 1, x.found(0, 0, 1));
        for (int q = 0; q < 6; q++) {
            Check.due("9 QUARREL " + q + " anew", q, x.writes(5, 0));
        }
        Check.due("9 a seventh anew", FULL, x.writes(5, 0));
        Check.due("28 an IMAGE anew", 0, x.keep(1));
        Check.due("29 not the other", STATE, x.back(0));
    }
}
