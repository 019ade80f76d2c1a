/** Counts the calls of a test whose answer is not the one that is due. */
final class Check {
    static final int NULL = -1000011, PLACE = -1000012, KIND = -1000013, SIZE = -1000014, STORE = -1000015;
    static final int NONE = -1000000, BAD = -1000001, STATE = -1000002, FULL = -1000003;

    private int wrong;

    void due(String call, int got, int want) {
        if (got != want) {
            wrong++;
            System.out.println(call + " answered " + got + ", due is " + want);
        }
    }

    void holds(String what, boolean so) {
        if (!so) {
            wrong++;
            System.out.println("does not hold: " + what);
        }
    }

    boolean isWrong() {
        return wrong > 0;
    }

    void end() {
        if (wrong > 0) {
            System.exit(1);
        }
    }

    static void feed(MatNations x, String text) {
        for (int i = 0; i < text.length(); i++) {
            x.feed(text.charAt(i));
        }
    }

    static int read(MatNations x, String text) {
        feed(x, text);
        return x.hotel();
    }

    static MatNations hotel(String text) {
        MatNations x = new MatNations();
        read(x, text);
        return x;
    }
}
