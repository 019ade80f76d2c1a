/** Promises 18 to 29: leaves, carries, clean, order, laying, beating, pacts, could, who, fits, absent, drawn. */
final class ForetoldTest {
    private static final Check check = new Check();

    public static void main(String[] args) {
        foretellsOne();
        findsOrders();
        findsLayings();
        findsBeatings();
        findsPacts();
        findsWhoCould();
        findsWho();
        findsWhatFits();
        weighsAbsence();
        draws();
        refusesWithoutHotel();
        changesNothing();
        check.end();
    }

    private static void foretellsOne() {
        MatNations x = Check.hotel("d10,1;m0;m4;w9,4,6;g9,4,3;t9,0,9;w8,1,8;");
        check.due("18 first", x.leaves(0, 0), 6);
        check.due("18 second", x.leaves(0, 1), 3);
        check.due("18 twice", x.leaves(1, 1), 6);
        check.due("18 nothing", x.leaves(2, 0), 0);
        check.due("19 carried", x.carries(2), 0);
        check.due("20 clean", x.clean(), 15);
        x.come(0);
        check.due("18 what it takes", x.leaves(3, 0), 4);
        check.due("18 what he has", x.leaves(3, 1), 4);
        check.due("19 carried", x.carries(2), 2);
        check.due("20 not clean", x.clean(), 11);
        check.due("18 comer", x.leaves(4, 0), Check.BAD);
        check.due("18 comer -1", x.leaves(-1, 0), Check.BAD);
        check.due("18 mat", x.leaves(0, 2), Check.BAD);
        check.due("18 mat -1", x.leaves(0, -1), Check.BAD);
        check.due("19 comer", x.carries(4), Check.BAD);
        check.due("19 comer -1", x.carries(-1), Check.BAD);
        check.due("20 nobody", Check.hotel("d1,1;m0;").clean(), 0);
    }

    private static void findsOrders() {
        MatNations x = Check.hotel("d4,1;m0;m1;w4,0,4;s8,0,1;");
        check.due("21 how much", x.order(-1), 4);
        check.due("21 first", x.order(0), 1);
        check.due("21 second", x.order(1), 0);
        check.due("21 fewer", x.order(2), Check.NONE);
        check.due("21 fewer", x.order(5), Check.NONE);
        check.due("21 6", x.order(6), Check.BAD);
        check.due("21 -2", x.order(-2), Check.BAD);
        x.come(0);
        check.due("21 from now", x.order(-1), 8);
        check.due("21 of several the first", x.order(0), 0);
        mostIsCarriedIn();
        MatNations nobody = Check.hotel("d4,1;m0;");
        check.due("21 nobody", nobody.order(-1), 0);
        check.due("21 nobody", nobody.order(0), Check.NONE);
    }

    private static void mostIsCarriedIn() {
        MatNations x = Check.hotel("d1,1;m0;w30,0,1;w30,0,1;w30,0,1;w30,0,1;w30,0,1;w30,0,1;");
        x.come(0);
        x.rain(20);
        x.rain(20);
        check.due("21 most", x.order(-1), 360);
        check.due("21 most", x.order(5), 5);
        check.due("22 most", x.laying(-1), 360);
        check.due("23 most", x.beating(63, 200, 0), Check.NONE);
        check.due("28 most", x.absent(200, 0, 0), 0);
    }

    private static void findsLayings() {
        MatNations x = Check.hotel("d4,1;m0;m1;s8,0,1;");
        x.come(0);
        check.due("22 how much", x.laying(-1), 4);
        check.due("22 first", x.laying(0), 1);
        check.due("22 second", x.laying(1), 0);
        check.due("22 fewer", x.laying(2), Check.NONE);
        check.due("22 4", x.laying(4), Check.BAD);
        check.due("22 -2", x.laying(-2), Check.BAD);
        x.beat(0);
        check.due("22 of several the first", x.laying(0), 0);
        MatNations nobody = Check.hotel("d4,1;m0;m1;m2;m3;");
        check.due("22 nobody", nobody.laying(-1), 0);
        check.due("22 nobody", nobody.laying(3), 3);
        // the stamper fills what lies first; the guest at home must find the other one free
        MatNations y = Check.hotel("d6,1;m2;m0;s12,1,1;g6,2,3;");
        check.due("22 by numbers", y.laying(-1), 6);
        check.due("22 countries go along", y.laying(0), 1);
    }

    private static void findsBeatings() {
        MatNations x = Check.hotel("d4,1;m0;m1;w8,0,4;w8,0,4;");
        x.come(0);
        check.due("23 none", x.beating(1, 8, 0), 0);
        check.due("23 none", x.beating(1, 8, 1), 0);
        check.due("23 one", x.beating(1, 4, 0), 1);
        check.due("23 of several the least", x.beating(1, 4, 1), 1);
        check.due("23 two", x.beating(1, 0, 0), 2);
        check.due("23 two", x.beating(1, 0, 1), 3);
        check.due("23 both come", x.beating(3, 7, 0), Check.NONE);
        check.due("23 both come", x.beating(3, 7, 1), Check.NONE);
        check.due("23 both come", x.beating(3, 8, 1), 3);
        check.due("23 nobody", x.beating(0, 0, 0), 0);
        check.due("23 most", x.beating(3, 200, 0), 0);
        check.due("23 no such comer", x.beating(4, 0, 0), Check.BAD);
        check.due("23 comers -1", x.beating(-1, 0, 0), Check.BAD);
        check.due("23 q -1", x.beating(1, -1, 0), Check.BAD);
        check.due("23 q 201", x.beating(1, 201, 0), Check.BAD);
        check.due("23 what 2", x.beating(1, 0, 2), Check.BAD);
        check.due("23 what -1", x.beating(1, 0, -1), Check.BAD);
        MatNations y = Check.hotel("d4,1;m0;m1;t8,0,4;s8,0,1;");
        y.come(0);
        y.come(1);
        // the guest is as well off by MATS 0 and 1 as by MAT 2, which is of his COUNTRY
        MatNations z = Check.hotel("d4,1;m0;m1;m5;g4,5,2;w12,0,4;");
        z.come(1);
        check.due("23 a greater set of fewer", z.beating(1, 0, 0), 1);
        check.due("23 a greater set of fewer", z.beating(1, 0, 1), 4);
        check.due("23 the second", y.beating(1, 4, 1), 2);
        check.due("23 the first", y.beating(2, 4, 1), 1);
    }

    private static void findsPacts() {
        MatNations x = Check.hotel("d60,3;m1;m2;m3;m2;w30,2,3;w30,3,3;");
        check.due("24 none", x.pacts(0), 0);
        check.due("24 none", x.pacts(1), Check.NONE);
        x.come(0);
        check.due("24 one", x.pacts(0), 1);
        check.due("24 the first", x.pacts(1), 13);
        x.come(1);
        check.due("24 three", x.pacts(0), 3);
        check.due("24 the first", x.pacts(1), 12);
        MatNations y = Check.hotel("d60,3;m1;m2;m1;w30,1,3;");
        y.come(0);
        check.due("24 with mat 0", y.pacts(0), 1);
        check.due("24 with mat 0", y.pacts(1), 2);
        check.due("24 what 2", x.pacts(2), Check.BAD);
        check.due("24 what -1", x.pacts(-1), Check.BAD);
    }

    private static void findsWhoCould() {
        MatNations x = Check.hotel("d60,3;m1;m2;m2;w9,1,3;w9,2,3;w9,2,2;g9,2,2;t9,2,4;");
        check.due("25 nobody yet", x.could(0, 1), 0);
        check.due("25 of one country", x.could(1, 2), 26);
        check.due("25 either way", x.could(2, 1), 26);
        x.come(0);
        check.due("25 then", x.could(0, 1), 2);
        x.come(1);
        check.due("25 already", x.could(0, 1), 31);
        MatNations y = Check.hotel("d60,3;m1;m2;w4,1,2;w9,2,9;w9,5,9;");
        y.come(0);
        y.come(1);
        check.due("25 only of his soil", y.could(0, 1), 1);
        check.due("25 itself", x.could(1, 1), Check.BAD);
        check.due("25 3", x.could(0, 3), Check.BAD);
        check.due("25 -1", x.could(-1, 0), Check.BAD);
    }

    private static void findsWho() {
        MatNations x = Check.hotel("d60,3;m1;m2;w9,1,3;w9,2,3;e6,2,3;t9,2,3;");
        x.row(0, 0, 4);
        x.row(1, 2, 1);
        x.row(7, 1, 2);
        x.set(0, 1, 3);
        x.set(0, 2, 3);
        check.due("26 two", x.who(0, 1), 3);
        check.due("26 the thief", x.who(0, 0), 8);
        check.due("26 nobody", x.who(0, 2), 0);
        x.set(0, 2, 1);
        check.due("26 the envoy", x.who(0, 1), 4);
        x.come(0);
        check.due("26 with what lies there", x.who(0, 1), 0);
        x.set(7, 0, 6);
        x.set(7, 1, 6);
        check.due("26 with what lies there", x.who(7, 0), 3);
        check.due("26 too short", x.who(1, 0), Check.PLACE);
        check.due("26 place 3", x.who(0, 3), Check.PLACE);
        check.due("26 place -1", x.who(0, -1), Check.PLACE);
        check.due("26 place most", x.who(0, Integer.MAX_VALUE), Check.PLACE);
        check.due("26 missing", x.who(2, -1), Check.NULL);
        check.due("26 row 8", x.who(8, 0), Check.BAD);
        check.due("26 row -1", x.who(-1, 0), Check.BAD);
    }

    private static void findsWhatFits() {
        MatNations x = Check.hotel("d10,3;m1;m2;g9,1,3;w9,2,3;");
        x.row(0, 0, 2);
        x.set(0, 0, 3);
        x.set(0, 1, 3);
        check.due("27 sorts", x.fits(1, 0, 0, 0), 2);
        check.due("27 soils", x.fits(1, 0, 0, 1), 0x3fffffff & ~63);
        check.due("27 manners", x.fits(1, 0, 0, 2), 8);
        check.due("27 from", x.fits(1, 0, 0, 3), 63);
        check.due("27 guest from elsewhere", x.fits(0, 0, 0, 3), 63 & ~6);
        check.due("27 sort of one from here", x.fits(0, 0, 0, 0), 2);
        x.set(0, 1, 6);
        check.due("27 guest", x.fits(1, 0, 0, 0), 4);
        check.due("27 guest from there", x.fits(0, 0, 0, 3), 4);
        x.set(0, 0, 9);
        x.set(0, 1, 0);
        check.due("27 manners of all", x.fits(1, 0, 0, 2), 512);
        x.set(0, 0, 1);
        x.set(0, 1, 1);
        check.due("27 manners of 1", x.fits(1, 0, 0, 2), 2);
        x.set(0, 1, 0);
        x.set(0, 0, 4);
        check.due("27 stamper", x.fits(1, 0, 0, 0), 16);
        x.set(0, 0, 0);
        check.due("27 nothing", x.fits(1, 0, 0, 1), 1);
        x.set(0, 1, 3);
        check.due("27 thief", x.fits(1, 0, 0, 0), 8);
        refusesWhatFits(x);
    }

    private static void refusesWhatFits(MatNations x) {
        check.due("27 comer", x.fits(2, 0, 0, 0), Check.BAD);
        check.due("27 comer -1", x.fits(-1, 0, 0, 0), Check.BAD);
        check.due("27 row", x.fits(0, 8, 0, 0), Check.BAD);
        check.due("27 what", x.fits(0, 0, 0, 4), Check.BAD);
        check.due("27 what -1", x.fits(0, 3, 0, -1), Check.BAD);
        check.due("27 missing", x.fits(0, 3, 0, 0), Check.NULL);
        check.due("27 place", x.fits(0, 0, 1, 0), Check.PLACE);
        check.due("27 place -1", x.fits(0, 0, -1, 0), Check.PLACE);
        check.due("27 comer as he was", x.comer(1, 0) * 100 + x.comer(1, 1) * 10 + x.comer(1, 2), 923);
        check.due("27 kind as it was", x.kind(1), 1);
    }

    private static void fraction(MatNations x, int q, int c, int above, int below) {
        check.due("28 above " + q + " by " + c, x.absent(q, c, 0), above);
        check.due("28 below " + q + " by " + c, x.absent(q, c, 1), below);
    }

    private static void weighsAbsence() {
        MatNations x = Check.hotel("d1,1;m0;s10,0,1;s10,0,1;");
        fraction(x, 9, 3, 51, 100);
        fraction(x, 8, 3, 9, 100);
        fraction(x, 19, 3, 1, 1);
        fraction(x, 18, 3, 51, 100);
        fraction(x, 9, 5, 3, 4);
        fraction(x, 18, 0, 0, 1);
        fraction(x, 0, 10, 1, 1);
        fraction(x, 200, 0, 1, 1);
        fraction(Check.hotel("d1,1;m0;"), 0, 5, 1, 1);
        check.due("28 q -1", x.absent(-1, 0, 0), Check.BAD);
        check.due("28 q 201", x.absent(201, 0, 0), Check.BAD);
        check.due("28 c -1", x.absent(0, -1, 0), Check.BAD);
        check.due("28 c 11", x.absent(0, 11, 0), Check.BAD);
        check.due("28 what 2", x.absent(0, 0, 2), Check.BAD);
        check.due("28 what -1", x.absent(0, 0, -1), Check.BAD);
    }

    private static void draws() {
        // by seed 1 X is 16807 and 282475249, which 7 divides, then 1622650073, which it does not
        MatNations x = Check.hotel("d9,1;m0;w4,0,3;");
        x.come(0);
        check.due("29 nothing yet", x.drawn(0, 1, 1), 3);
        check.due("29 beaten", x.drawn(1, 1, 1), 3);
        check.due("29 beaten again", x.drawn(2, 1, 1), 3);
        check.due("29 not beaten", x.drawn(3, 1, 1), 6);
        check.due("29 carried", x.drawn(3, 1, 0), 3);
        // 16807 is odd: MAT 1 is beaten, COMER 1 comes
        MatNations y = Check.hotel("d9,1;m0;m0;w4,0,1;w9,0,2;");
        y.come(0);
        check.due("29 second mat, second comer", y.drawn(1, 1, 0), 5);
        check.due("29 second mat, second comer", y.drawn(1, 1, 1), 5);
        check.due("29 nobody", Check.hotel("d9,1;m0;").drawn(60, 999999, 0), 0);
        check.due("29 n -1", x.drawn(-1, 1, 0), Check.BAD);
        check.due("29 n 61", x.drawn(61, 1, 0), Check.BAD);
        check.due("29 seed 0", x.drawn(1, 0, 0), Check.BAD);
        check.due("29 seed 1000000", x.drawn(1, 1000000, 0), Check.BAD);
        check.due("29 what 2", x.drawn(1, 1, 2), Check.BAD);
        check.due("29 what -1", x.drawn(1, 1, -1), Check.BAD);
    }

    private static void refusesWithoutHotel() {
        MatNations x = new MatNations();
        check.due("20", x.clean(), Check.STATE);
        check.due("21", x.order(9), Check.STATE);
        check.due("22", x.laying(9), Check.STATE);
        check.due("23", x.beating(-1, 0, 0), Check.STATE);
        check.due("24", x.pacts(9), Check.STATE);
        check.due("25", x.could(0, 1), Check.BAD);
        check.due("26", x.who(9, 0), Check.STATE);
        check.due("27", x.fits(0, 0, 0, 0), Check.BAD);
        check.due("28", x.absent(-1, 0, 0), Check.STATE);
        check.due("29", x.drawn(-1, 0, 0), Check.STATE);
        check.due("18", x.leaves(0, 0), Check.BAD);
        check.due("19", x.carries(0), Check.BAD);
    }

    private static void changesNothing() {
        MatNations x = Check.hotel("d20,1;m1;m2;w9,1,3;g9,2,3;e9,0,1;");
        x.come(0);
        x.row(0, 0, 4);
        String before = seen(x);
        for (int comer = 0; comer < 3; comer++) {
            x.leaves(comer, 1);
            x.carries(comer);
            for (int what = 0; what < 4; what++) {
                x.fits(comer, 0, 0, what);
            }
        }
        x.clean();
        x.order(0);
        x.laying(0);
        x.beating(7, 0, 0);
        x.could(0, 1);
        x.who(0, 0);
        x.absent(20, 5, 0);
        x.drawn(60, 77, 0);
        check.holds("nothing changes by what is foretold", before.equals(seen(x)));
    }

    private static String seen(MatNations x) {
        StringBuilder all = new StringBuilder();
        for (int i = 0; i < 8; i++) {
            all.append(x.count(i)).append(' ');
        }
        for (int i = 0; i < 4; i++) {
            for (int mat = 0; mat < 2; mat++) {
                all.append(x.mat(mat, i)).append(' ').append(x.soil(mat, i)).append(' ');
            }
            for (int comer = 0; comer < 3; comer++) {
                all.append(x.comer(comer, i)).append(' ');
            }
        }
        return all.toString();
    }
}
