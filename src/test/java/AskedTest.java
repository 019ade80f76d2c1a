/** Promises 30 to 35: image, restore, kind, as, ask, trace. */
final class AskedTest {
    private static final Check check = new Check();

    public static void main(String[] args) {
        keepsImages();
        refusesImages();
        tellsKinds();
        asks();
        refusesAsks();
        check.end();
    }

    private static void keepsImages() {
        MatNations x = Check.hotel("d20,2;m1;m2;w9,1,3;g9,2,3;");
        x.come(0);
        check.due("30 first", x.image(0), 1);
        check.due("30 acts stay", x.count(6), 1);
        x.come(1);
        x.rain(5);
        x.change(0);
        check.due("30 second", x.image(1), 1);
        check.due("31 first", x.restore(0), 1);
        check.due("31 no act", x.count(6), 0);
        check.due("31 undo", x.undo(), Check.STATE);
        check.due("31 came", x.count(5), 1);
        check.due("31 soil", x.comer(0, 0), 9);
        check.due("31 country", x.mat(0, 0), 1);
        check.due("31 lies", x.count(4), 6);
        x.beat(0);
        check.due("31 second", x.restore(1), 1);
        check.due("31 rain", x.comer(0, 0), 14);
        check.due("31 country", x.mat(0, 0), 2);
        check.due("31 came", x.count(5), 2);
        Check.read(x, "d7,9;m5;");
        check.due("31 another hotel", x.restore(0), 1);
        check.due("31 limit", x.count(3), 20);
        check.due("31 comers", x.count(2), 2);
        check.due("31 an image stays as it was kept", x.mat(0, 1), 3);
        check.due("31 kind", x.kind(1), 2);
        x.come(1);
        check.due("31 bond", x.atOne(0, 1), 1);
    }

    private static void refusesImages() {
        MatNations x = new MatNations();
        check.due("30 -1", x.image(-1), Check.BAD);
        check.due("30 2", x.image(2), Check.BAD);
        check.due("30 no hotel", x.image(1), Check.STATE);
        check.due("31 -1", x.restore(-1), Check.BAD);
        check.due("31 2", x.restore(2), Check.BAD);
        check.due("31 none", x.restore(1), Check.STATE);
        Check.read(x, "d7,9;m5;");
        x.image(1);
        check.due("31 not that one", x.restore(0), Check.STATE);
    }

    private static final String ALL = "d60,9;m0;w11,0,1;g12,0,1;t13,0,1;s14,0,1;e15,0,1;w16,0,1;";

    private static void tellsKinds() {
        MatNations x = Check.hotel(ALL);
        int[] kinds = {1, 2, 3, 4, 5, 1};
        // bits: the KINDS that each KIND is
        int[] also = {0, 3, 7, 11, 17, 49};
        for (int comer = 0; comer < 6; comer++) {
            check.due("32 " + comer, x.kind(comer), kinds[comer]);
            for (int kind = 0; kind < 6; kind++) {
                boolean is = (also[kinds[comer]] >> kind & 1) == 1;
                check.due("33 " + comer + " as " + kind, x.as(comer, kind), is ? comer : Check.KIND);
            }
        }
        check.due("32 -1", x.kind(-1), Check.BAD);
        check.due("32 6", x.kind(6), Check.BAD);
        check.due("33 comer", x.as(6, 0), Check.BAD);
        check.due("33 comer -1", x.as(-1, 0), Check.BAD);
        check.due("33 kind", x.as(0, 6), Check.BAD);
        check.due("33 kind -1", x.as(0, -1), Check.BAD);
    }

    private static void asks() {
        MatNations x = Check.hotel(ALL);
        for (int comer = 0; comer < 6; comer++) {
            x.come(comer);
            x.come(comer);
        }
        asked(x, 0, 0, 11 + 0 + 2, 11, 10, 21, 20);
        asked(x, 0, 1, 0 + 2, 21, 20);
        asked(x, 1, 0, -(12 + 2 * (1 + 2)), 12, 11, 10, 24, 21, 20);
        asked(x, 1, 1, 2 * (1 + 2), 24, 21, 20);
        asked(x, 2, 0, 13 + 2 + 2 - 1000, 11, 10, 22, 21, 20);
        asked(x, 2, 1, 2 + 2 - 1000, 22, 21, 20);
        asked(x, 3, 0, 14 - 100, 13, 10);
        asked(x, 3, 1, 3 - (14 - 100), 23, 20, 13, 10);
        asked(x, 4, 0, 2 * (15 - 100), 14, 13, 10);
        asked(x, 4, 1, 4 - 2 * (15 - 100), 23, 20, 14, 13, 10);
        asked(x, 5, 0, 16 + 5 + 2, 11, 10, 21, 20);
    }

    private static void asked(MatNations x, int comer, int what, int want, int... bodies) {
        String call = " ask(" + comer + ", " + what + ")";
        check.due("34" + call, x.ask(comer, what), want);
        for (int i = 0; i < bodies.length; i++) {
            check.due("35 " + i + call, x.trace(i), bodies[i]);
        }
        check.due("35 the end" + call, x.trace(bodies.length), Check.NONE);
        check.due("35 -1" + call, x.trace(-1), Check.NONE);
    }

    private static void refusesAsks() {
        MatNations x = Check.hotel(ALL);
        x.ask(3, 0);
        check.due("34 comer", x.ask(6, 0), Check.BAD);
        check.due("34 comer -1", x.ask(-1, 0), Check.BAD);
        check.due("34 what", x.ask(0, 2), Check.BAD);
        check.due("34 what -1", x.ask(0, -1), Check.BAD);
        check.due("35 refused, it stays", x.trace(1), 10);
        check.due("35 most", x.trace(Integer.MAX_VALUE), Check.NONE);
        check.due("35 least", x.trace(Integer.MIN_VALUE), Check.NONE);
    }
}
