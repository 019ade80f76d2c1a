/** Promises 9 to 17 and 36: come, beat, change, rain, undo, comer, mat, soil, atOne, count. */
final class ActsTest {
    private static final Check check = new Check();

    public static void main(String[] args) {
        comesByKinds();
        stopsAtLimits();
        comesAgain();
        beats();
        changes();
        rains();
        undoes();
        keepsTwentyFour();
        tellsOfComersAndMats();
        tellsAtOne();
        counts();
        check.end();
    }

    /** One of 21 by 3 COMES over three MATS, the second of which is of his COUNTRY. */
    private static void comes(String sort, int carried, int first, int second, int third) {
        MatNations x = Check.hotel("d60,1;m0;m4;m5;" + sort + "21,4,3;");
        check.due("9 " + sort, x.come(0), carried);
        check.due("9 " + sort + " on 0", x.soil(0, 4), first);
        check.due("9 " + sort + " on 1", x.soil(1, 4), second);
        check.due("9 " + sort + " on 2", x.soil(2, 4), third);
        check.due("9 " + sort + " in all", x.count(4), first + second + third);
    }

    private static void comesByKinds() {
        comes("w", 12, 3, 3, 3);
        comes("g", 9, 3, 6, 3);
        comes("t", 15, 0, 3, 3);
        comes("s", 11, 10, 0, 0);
        comes("e", 3, 10, 5, 3);
    }

    private static void stopsAtLimits() {
        MatNations x = Check.hotel("d5,1;m0;m0;w7,1,4;e20,2,1;g5,0,3;");
        check.due("9 no more than he has", x.come(0), 0);
        check.due("9 first", x.soil(0, 1), 4);
        check.due("9 the rest", x.soil(1, 1), 3);
        check.due("9 no more than it takes", x.come(1), 17);
        check.due("9 taken", x.soil(0, 2), 1);
        check.due("9 taken", x.soil(1, 2), 2);
        check.due("9 full", x.come(2), 5);
        check.due("9 nothing", x.soil(0, 0), 0);
        check.due("9 -1", x.come(-1), Check.BAD);
        check.due("9 3", x.come(3), Check.BAD);
        check.due("9 acts", x.count(6), 3);
    }

    private static void comesAgain() {
        MatNations x = Check.hotel("d60,1;m0;w9,1,4;w9,2,4;");
        check.due("9 once", x.come(0), 5);
        check.due("9 with as much again", x.come(0), 5);
        check.due("9 twice", x.comer(0, 3), 2);
        check.due("9 nobody else", x.comer(1, 3), 0);
        check.due("9 lies there", x.soil(0, 1), 8);
        check.due("9 soil", x.comer(0, 0), 9);
    }

    private static void beats() {
        MatNations x = Check.hotel("d60,1;m0;m1;w9,1,4;w9,2,3;");
        x.come(0);
        x.come(1);
        check.due("10 -1", x.beat(-1), Check.BAD);
        check.due("10 2", x.beat(2), Check.BAD);
        check.due("10 first", x.beat(0), 7);
        check.due("10 nothing", x.mat(0, 1), 0);
        check.due("10 the other", x.mat(1, 1), 7);
        check.due("10 empty", x.beat(0), 0);
        check.due("10 an act, too", x.count(6), 4);
        check.due("10 no hotel", new MatNations().beat(0), Check.BAD);
    }

    private static void changes() {
        MatNations x = Check.hotel("d60,1;m0;m1;m2;t9,3,4;");
        x.come(0);
        check.due("11 -1", x.change(-1), Check.BAD);
        check.due("11 last", x.change(2), Check.BAD);
        check.due("11 3", x.change(3), Check.BAD);
        check.due("11 most", x.change(Integer.MAX_VALUE), Check.BAD);
        check.due("11 first", x.change(0), 1);
        check.due("11 country", x.mat(1, 0), 0);
        check.due("11 lies there", x.soil(0, 3), 4);
        check.due("11 lies there", x.soil(1, 3), 0);
        check.due("11 second", x.change(1), 2);
        check.due("11 row", x.mat(0, 0) * 100 + x.mat(1, 0) * 10 + x.mat(2, 0), 120);
        check.due("11 undo", x.undo(), 2);
        check.due("11 undone", x.mat(1, 0), 0);
        check.due("11 undo", x.undo(), 1);
        check.due("11 undone", x.mat(0, 0), 0);
        check.due("11 undone", x.soil(1, 3), 4);
        MatNations y = Check.hotel("d60,1;m3;m4;");
        y.change(0);
        y.undo();
        check.due("11 countries undone", y.mat(0, 0) * 10 + y.mat(1, 0), 34);
        check.due("11 one mat", Check.hotel("d1,1;m0;").change(0), Check.BAD);
    }

    private static void rains() {
        MatNations x = Check.hotel("d60,1;m0;w9,1,4;w30,2,3;");
        check.due("12 0", x.rain(0), Check.BAD);
        check.due("12 21", x.rain(21), Check.BAD);
        check.due("12 1", x.rain(1), 41);
        check.due("12 20", x.rain(20), 81);
        check.due("12 60 at most", x.rain(20), 110);
        check.due("12 soil", x.comer(0, 0), 50);
        check.due("12 soil", x.comer(1, 0), 60);
        check.due("12 undo", x.undo(), 2);
        check.due("12 undone", x.comer(1, 0), 51);
        check.due("12 nobody", Check.hotel("d1,1;m0;").rain(5), 0);
        check.due("12 no hotel", new MatNations().rain(5), Check.STATE);
        check.due("12 ahead of BAD", new MatNations().rain(0), Check.STATE);
    }

    private static void undoes() {
        MatNations x = Check.hotel("d60,1;m0;m1;w9,1,4;w9,2,3;");
        check.due("13 none", x.undo(), Check.STATE);
        x.come(0);
        x.come(1);
        x.rain(5);
        x.beat(0);
        x.change(0);
        check.due("13 five", x.count(6), 5);
        check.due("13 change", x.undo(), 4);
        check.due("13 country", x.mat(0, 0), 0);
        check.due("13 beaten yet", x.mat(0, 1), 0);
        check.due("13 beat", x.undo(), 3);
        check.due("13 unbeaten", x.soil(0, 1), 4);
        check.due("13 unbeaten", x.soil(0, 2), 3);
        check.due("13 rain", x.undo(), 2);
        check.due("13 dry", x.comer(0, 0), 9);
        check.due("13 come", x.undo(), 1);
        check.due("13 came not", x.comer(1, 3), 0);
        check.due("13 left nothing", x.soil(0, 2), 0);
        check.due("13 the other", x.soil(0, 1), 4);
        check.due("13 come", x.undo(), 0);
        check.due("13 nothing", x.count(4), 0);
        check.due("13 none", x.undo(), Check.STATE);
        check.due("13 no hotel", new MatNations().undo(), Check.STATE);
    }

    private static void keepsTwentyFour() {
        MatNations x = Check.hotel("d60,1;m0;w1,1,1;");
        for (int i = 1; i <= 30; i++) {
            x.come(0);
            check.due("13 kept", x.count(6), Math.min(24, i));
        }
        for (int i = 23; i >= 0; i--) {
            check.due("13 undo", x.undo(), i);
            check.due("13 came", x.comer(0, 3), i + 6);
            check.due("13 lies", x.count(4), i + 6);
        }
        check.due("13 forgotten", x.undo(), Check.STATE);
        check.due("13 stays", x.count(5), 6);
    }

    private static void tellsOfComersAndMats() {
        MatNations x = Check.hotel("d20,1;m3;m1;g9,2,4;w9,1,4;w9,5,5;");
        check.due("14 -1", x.comer(-1, 0), Check.BAD);
        check.due("14 3", x.comer(3, 0), Check.BAD);
        check.due("14 what -1", x.comer(0, -1), Check.BAD);
        check.due("14 what 4", x.comer(0, 4), Check.BAD);
        check.due("14 soil", x.comer(0, 0), 9);
        check.due("14 from", x.comer(0, 1), 2);
        check.due("14 manners", x.comer(0, 2), 4);
        check.due("15 none", x.mat(0, 3), Check.NONE);
        x.come(0);
        check.due("15 master", x.mat(0, 3), 2);
        x.come(1);
        check.due("15 of several the least", x.mat(0, 3), 1);
        x.come(2);
        check.due("15 most", x.mat(0, 3), 5);
        check.due("15 country", x.mat(0, 0), 3);
        check.due("15 lies", x.mat(0, 1), 13);
        check.due("15 takes", x.mat(0, 2), 7);
        check.due("15 what -1", x.mat(0, -1), Check.BAD);
        check.due("15 what 4", x.mat(0, 4), Check.BAD);
        check.due("15 -1", x.mat(-1, 0), Check.BAD);
        check.due("15 2", x.mat(2, 0), Check.BAD);
        MatNations y = Check.hotel("d20,1;m3;w1,0,1;w1,1,1;");
        y.come(1);
        check.due("15 master by 1", y.mat(0, 3), 1);
        y.come(0);
        check.due("15 the least is 0", y.mat(0, 3), 0);
        check.due("16 of 5", x.soil(0, 5), 5);
        check.due("16 of 0", x.soil(0, 0), 0);
        check.due("16 on 1", x.soil(1, 2), 4);
        check.due("16 country -1", x.soil(0, -1), Check.BAD);
        check.due("16 country 6", x.soil(0, 6), Check.BAD);
        check.due("16 mat -1", x.soil(-1, 0), Check.BAD);
        check.due("16 mat 2", x.soil(2, 0), Check.BAD);
    }

    private static void tellsAtOne() {
        MatNations x = Check.hotel("d60,4;m1;m2;m1;w30,1,4;w30,2,2;");
        check.due("17 not yet", x.atOne(0, 2), 0);
        x.come(0);
        check.due("17 of one country", x.atOne(0, 2), 1);
        check.due("17 one way", x.atOne(0, 1), 0);
        x.come(1);
        check.due("17 below the bond", x.atOne(0, 1), 0);
        x.come(1);
        check.due("17 at one", x.atOne(0, 1), 1);
        check.due("17 either way", x.atOne(1, 0), 1);
        check.due("17 itself", x.atOne(0, 0), 0);
        x.beat(1);
        check.due("17 the other way", x.atOne(0, 1), 0);
        check.due("17 -1", x.atOne(-1, 0), Check.BAD);
        check.due("17 3", x.atOne(0, 3), Check.BAD);
        check.due("17 3 with itself", x.atOne(3, 3), Check.BAD);
    }

    private static void counts() {
        MatNations x = Check.hotel("d33,1;m1;m2;m3;w30,1,4;w30,2,2;");
        x.row(0, 0, 0);
        x.row(5, 1, 3);
        x.come(0);
        x.come(0);
        x.come(1);
        x.beat(2);
        Check.feed(x, "d12");
        int[] want = {2, 3, 2, 33, 20, 3, 4, 3};
        for (int what = 0; what < want.length; what++) {
            check.due("36 " + what, x.count(what), want[what]);
        }
        check.due("36 -1", x.count(-1), Check.BAD);
        check.due("36 8", x.count(8), Check.BAD);
    }
}
