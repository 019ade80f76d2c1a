/** Promises 6 to 8: feed, hotel, fault. */
final class ReadingTest {
    private static final Check check = new Check();
    private static final String LAW = "d9,1;", HOUSE = "d9,1;m0;";

    public static void main(String[] args) {
        feedsTheTape();
        readsHotels();
        findsWhatCannotStand();
        findsNumbers();
        findsNoRoom();
        keepsAllAtFaults();
        check.end();
    }

    private static void feedsTheTape() {
        MatNations x = new MatNations();
        check.due("6 -1", x.feed(-1), Check.BAD);
        check.due("6 256", x.feed(256), Check.BAD);
        check.due("6 first", x.feed(0), 1);
        check.due("6 second", x.feed(255), 2);
        for (int i = 2; i < 100; i++) {
            check.due("6 next", x.feed('d'), i + 1);
        }
        check.due("6 101st", x.feed('d'), Check.FULL);
        check.due("6 BAD ahead of FULL", x.feed(256), Check.BAD);
        check.due("6 bytes", x.count(7), 100);
        check.due("7 a long tape", x.hotel(), -1000100);
        check.due("7 empty then", x.count(7), 0);
        check.due("6 anew", x.feed('d'), 1);
    }

    private static void reads(String text, int want) {
        MatNations x = new MatNations();
        check.due("7 " + text, Check.read(x, text), want);
        check.due("8 " + text, x.fault(), 0);
        check.due("7 empty behind " + text, x.count(7), 0);
    }

    private static void readsHotels() {
        reads("d1,1;m0;", 0);
        reads("d60,9;m5;m5;m0;m0;", 0);
        reads("d05,01;m00;m05;w00,00,01;", 1);
        reads("d9,1;m0;w30,5,9;g0,0,1;t1,1,1;s2,2,2;e3,3,3;w4,4,4;", 6);
        MatNations x = Check.hotel("d42,7;m3;m5;g30,4,9;s0,0,1;");
        check.due("7 limit", x.count(3), 42);
        check.due("7 mats", x.count(1), 2);
        check.due("7 comers", x.count(2), 2);
        check.due("7 country", x.mat(1, 0), 5);
        check.due("7 sort", x.kind(0), 2);
        check.due("7 soil", x.comer(0, 0), 30);
        check.due("7 from", x.comer(0, 1), 4);
        check.due("7 manners", x.comer(0, 2), 9);
        check.due("7 sort", x.kind(1), 4);
        bondIsRead();
        standsInPlaceOfTheOneBefore();
    }

    private static void bondIsRead() {
        MatNations x = Check.hotel("d60,4;m1;m1;w30,1,3;");
        x.come(0);
        check.due("7 below the bond", x.atOne(0, 1), 0);
        x.come(0);
        check.due("7 above the bond", x.atOne(0, 1), 1);
    }

    private static void standsInPlaceOfTheOneBefore() {
        MatNations x = Check.hotel("d60,1;m1;m2;w30,1,3;w30,1,3;");
        x.come(1);
        x.rain(3);
        check.due("7 anew", Check.read(x, "d50,2;m1;w9,1,3;"), 1);
        check.due("7 nothing lies there", x.count(4), 0);
        check.due("7 nobody came", x.count(5), 0);
        check.due("7 no act", x.count(6), 0);
        check.due("7 undo", x.undo(), Check.STATE);
        check.due("7 soil", x.comer(0, 0), 9);
        check.due("7 no such mat", x.mat(1, 0), Check.BAD);
        check.due("7 no such comer", x.comer(1, 0), Check.BAD);
        Check.read(x, "d60,1;m1;m2;w30,1,3;w30,1,3;");
        check.due("7 not as before", x.comer(1, 3), 0);
        check.due("7 not as before", x.count(4), 0);
    }

    private static void faults(String text, int place, int number) {
        MatNations x = Check.hotel("d9,1;m0;w1,0,1;");
        check.due("7 " + text, Check.read(x, text), -1000100 - place);
        check.due("8 " + text, x.fault(), number);
        check.due("7 empty behind " + text, x.count(7), 0);
    }

    private static void findsWhatCannotStand() {
        faults("", 0, 1);
        faults("m0;", 0, 1);
        faults("D", 0, 1);
        faults("1", 0, 1);
        faults("d", 1, 1);
        faults("d,", 1, 1);
        faults("da", 1, 1);
        faults("d 5", 1, 1);
        faults("d100,1;m0;", 1, 1);
        faults("d005,1;m0;", 1, 1);
        faults("d99999,1;m0;", 1, 1);
        faults("d5;", 2, 1);
        faults("d50", 3, 1);
        faults("d5,", 3, 1);
        faults("d5,;", 3, 1);
        faults("d5,1,", 4, 1);
        faults(LAW, 5, 1);
        faults(LAW + "w1,0,1;", 5, 1);
        faults(LAW + ";", 5, 1);
        faults(LAW + "m", 6, 1);
        faults(LAW + "mm", 6, 1);
        faults(LAW + "m100;", 6, 1);
        faults(LAW + "m0,", 7, 1);
        faults(HOUSE + ";", 8, 1);
        faults(HOUSE + "d9,1;", 8, 1);
        faults(HOUSE + "x1,0,1;", 8, 1);
        faults(HOUSE + "7", 8, 1);
        faults(HOUSE + (char) 200, 8, 1);
        faults(HOUSE + "w", 9, 1);
        faults(HOUSE + "w100", 9, 1);
        faults(HOUSE + "w1;", 10, 1);
        faults(HOUSE + "w1,,", 11, 1);
        faults(HOUSE + "w1,0;", 12, 1);
        faults(HOUSE + "w1,0,", 13, 1);
        faults(HOUSE + "w1,0,1", 14, 1);
        faults(HOUSE + "w1,0,1,", 14, 1);
        faults(HOUSE + "w1,0,1;m0;", 15, 1);
        faults(HOUSE + "w1,0,1; ", 15, 1);
        faults(HOUSE + "w1,0,111;", 13, 1);
    }

    private static void findsNumbers() {
        faults("d0,", 1, 2);
        faults("d61,1;m0;", 1, 2);
        faults("d0", 1, 2);
        faults("d0x", 1, 2);
        faults("d60,0;", 4, 2);
        faults("d60,10;", 4, 2);
        faults(LAW + "m6;", 6, 2);
        faults(LAW + "m10;", 6, 2);
        faults(HOUSE + "w31,0,1;", 9, 2);
        faults(HOUSE + "g30,6,1;", 12, 2);
        faults(HOUSE + "t30,5,0;", 14, 2);
        faults(HOUSE + "e30,5,10;", 14, 2);
    }

    private static void findsNoRoom() {
        faults("d9,1;m0;m0;m0;m0;m0;", 17, 3);
        faults("d9,1;m0;m0;m0;m0;m", 17, 3);
        faults("d9,1;m0;m0;m0;m0;d", 17, 1);
        String six = HOUSE + "w1,0,1;g1,0,1;t1,0,1;s1,0,1;e1,0,1;w1,0,1;";
        faults(six + "e1,0,1;", 50, 3);
        faults(six + "w", 50, 3);
        faults(six + "m0;", 50, 1);
        faults(six + "x", 50, 1);
        faults("d9,1;m0;m0;m0;m0;w1,0,1;m0;", 24, 1);
    }

    private static void keepsAllAtFaults() {
        MatNations x = Check.hotel("d9,2;m3;m4;w5,1,1;");
        x.come(0);
        check.due("7 fault", Check.read(x, "d8,1;m1;m2;m0;g9,0,1;g9,0,"), -1000126);
        check.due("8 one", x.fault(), 1);
        check.due("7 limit stays", x.count(3), 9);
        check.due("7 mats stay", x.count(1), 2);
        check.due("7 country stays", x.mat(0, 0), 3);
        check.due("7 soil stays", x.soil(1, 1), 1);
        check.due("7 comers stay", x.count(2), 1);
        check.due("7 comer stays", x.comer(0, 0), 5);
        check.due("7 came stays", x.comer(0, 3), 1);
        check.due("7 acts stay", x.undo(), 0);
        Check.read(x, "d0,1;m0;");
        check.due("8 the latest", x.fault(), 2);
        check.due("7 behind a fault", Check.read(x, "d9,1;m0;"), 0);
        check.due("8 behind a hotel without one", x.fault(), 2);
    }
}
