/** Objects in which something is at its edge, each made within the 512 calls that an object may have. */
final class States {
    /** 93 letters: the term, six writers. */
    static final String SIX = "t3;w1 5 1 0 0 0 0;w2 0 9 0 0 0 7;w9 1 8 9 0 0 0;w3 5 0 8 0 9 0;w4 4 0 0 5 8 0;"
        + "w5 2 0 0 0 7 6;";

    private States() {
    }

    /** Two writers, nothing done. */
    static LastWord quiet() {
        return Check.told("w2 5 9 0 0 0 0;w3 1 9 8 0 0 0;");
    }

    /** Six writers (5 laid down), six quarrels, ten to undo, five found, both images, a text that ends too early. */
    static LastWord full() {
        LastWord x = Check.told(SIX);
        x.writes(0, 0);
        x.writes(0, 1);
        x.keep(0);
        x.day();
        x.writes(3, 3);
        Check.days(x, 3);
        x.writes(1, 4);
        x.writes(2, 2);
        x.lays(5);
        x.keep(1);
        Check.days(x, 2);
        x.writes(0, 3);
        Check.days(x, 2);
        x.found(0, 0, 1);
        x.found(1, 0, 2);
        x.found(0, 2, 4);
        x.found(3, 4, 1);
        x.found(0, 3, 3);
        x.rate(3, 1);
        Check.type(x, "t4;w1 5 0 0");
        return x;
    }

    /** 200 letters with a fault in the last of them, behind a paper of one writer. */
    static LastWord textFull() {
        LastWord x = Check.told("t5;w4 5 1 2 3 4 5;");
        x.writes(0, 0);
        x.day();
        Check.type(x, "t7;" + "w1 5 0 0 0 0 0;".repeat(6) + " ".repeat(106) + "x");
        return x;
    }

    /** Three writers, all of whom laid down the pen, two quarrels. */
    static LastWord allLaid() {
        LastWord x = Check.told("t1;w2 5 9 0 0 0 0;w3 1 9 8 0 0 0;w3 1 9 8 0 0 0;");
        x.writes(0, 0);
        x.writes(1, 1);
        Check.days(x, 2);
        x.keep(1);
        x.lays(0);
        x.lays(1);
        x.lays(2);
        return x;
    }
}
