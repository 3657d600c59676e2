/** Compares answers with those that are due, and ends a test. */
final class Check {
    private static int checked = 0;
    private static int wrong = 0;

    private Check() {
    }

    static void due(String call, long want, long got) {
        checked++;
        if (got != want) {
            wrong++;
            System.out.println(call + " answered " + got + ", due is " + want);
        }
    }

    static void type(LastWord x, String text) {
        for (int i = 0; i < text.length(); i++) {
            x.type(text.charAt(i));
        }
    }

    /** A new object that has been told a text without a fault. */
    static LastWord told(String text) {
        LastWord x = new LastWord();
        type(x, text);
        if (x.paper() < 0) {
            due("paper() of " + text + " has a fault", 0, 1);
        }
        return x;
    }

    static void days(LastWord x, int many) {
        for (int i = 0; i < many; i++) {
            x.day();
        }
    }

    static void end() {
        System.out.println(checked + " answers looked at, " + wrong + " wrong");
        if (wrong != 0 || checked == 0) {
            System.exit(1);
        }
    }
}
