/** The boundary cases of promises 18 to 29, sentence by sentence: what is FORETOLD. */
final class BoundsForetoldTest {
    private static final Check check = new Check();
    private static final Script script = new Script(check);
    private static final String ALL_SORTS = "d60,1;m0;m1;m2;m3;w30,0,1;g29,1,2;t28,2,3;s27,3,4;e26,4,5;w25,5,9;";

    public static void main(String[] args) {
        leaves();
        carries();
        clean();
        orders();
        ordersRefused();
        layings();
        layingsRefused();
        beatings();
        beatingsRefused();
        pacts();
        could();
        who();
        whoRefused();
        fits();
        fitsRefused();
        absent();
        absentRefused();
        drawn();
        drawnRefused();
        carriedIn200();
        check.end();
    }

    private static void leaves() {
        script.run("18: What he would leave on a MAT", "read d10,1;m0;m1;m2;m3;w9,0,4; = 1", "leaves 0 0 = 4", "leaves 0 1 = 4",
            "leaves 0 2 = 1", "leaves 0 3 = 0", "come 0 = 0", "come 0 = 0", "leaves 0 0 = 2", "leaves 0 1 = 2",
            "leaves 0 2 = 4", "leaves 0 3 = 1", "come 0 = 0", "leaves 0 0 = 0", "leaves 0 1 = 0");
        script.run("18: BAD", "read d10,1;m0;m1;w9,0,4; = 1", "leaves -1 0 = BAD", "leaves 1 0 = BAD", "leaves 0 -1 = BAD",
            "leaves 0 2 = BAD", "leaves LEAST 0 = BAD", "leaves 0 MOST = BAD", "leaves 1 2 = BAD", "leaves 6 0 = BAD",
            "leaves 0 4 = BAD");
    }

    private static void carries() {
        script.run("19: What would be CARRIED in", "read d1,1;m0;w30,0,9;w1,0,9;w0,0,9; = 3", "carries 0 = 29", "carries 1 = 0",
            "carries 2 = 0", "come 0 = 29", "carries 0 = 30", "carries 1 = 1", "carries 2 = 0", "rain 20", "rain 20",
            "carries 0 = 60");
        script.run("19: BAD", "read d1,1;m0;w30,0,9;w1,0,9; = 2", "carries -1 = BAD", "carries 2 = BAD", "carries 6 = BAD",
            "carries LEAST = BAD", "carries MOST = BAD", "read d1,1;m0; = 0", "carries 0 = BAD");
    }

    private static void clean() {
        script.run("20: of whom nothing would be CARRIED in", "read d60,1;m0;w9,0,9;w9,0,8;w0,0,1;t1,0,1;t0,0,1;s1,0,1; = 6",
            "clean = 21");
        script.run("20: each by himself", "read d4,1;m0;w4,0,4;w4,0,4;w0,0,1; = 3", "clean = 7", "come 0 = 0", "clean = 4",
            "beat 0 = 4", "clean = 7");
        script.run("20: all six, nobody", "read d60,1;m0;" + "w1,0,1;".repeat(6) + " = 6", "clean = 63",
            "read d60,1;m0;" + "w2,0,1;".repeat(6) + " = 6", "clean = 0", "read d60,1;m0; = 0", "clean = 0");
        script.run("20: STATE: no HOTEL", "clean = STATE", "read d0 = FAULT1", "clean = STATE");
    }

    private static void orders() {
        script.run("21: the k-th, 0 to 5", "read d12,1;m1;m2;m1;m2;e5,1,4;w10,0,6;s12,1,9;w23,0,1;g18,1,3;s10,0,3; = 6",
            "order -1 = 37", "order 0 = 2", "order 1 = 3", "order 2 = 4", "order 3 = 0", "order 4 = 1", "order 5 = 5");
        script.run("21: of several the first (by numbers)", "read d60,1;m0;" + "w9,0,1;".repeat(6) + " = 6", "order -1 = 48",
            "order 0 = 0", "order 1 = 1", "order 2 = 2", "order 3 = 3", "order 4 = 4", "order 5 = 5");
        script.run("21: coming now", "read d4,1;m0;m1;w4,0,4;s8,0,1; = 2", "order -1 = 4", "order 0 = 1", "order 1 = 0",
            "come 0 = 0", "order -1 = 8", "order 0 = 0", "order 1 = 1");
        script.run("21: NONE: there are fewer", "read d4,1;m0;m1;w4,0,4;s8,0,1; = 2", "order 2 = NONE", "order 5 = NONE",
            "read d4,1;m0; = 0", "order -1 = 0", "order 0 = NONE", "order 5 = NONE",
            "read d4,1;m0;" + "w9,0,1;".repeat(5) + " = 5", "order 4 = 4", "order 5 = NONE");
        script.run("21: as much as can be CARRIED in", "read d1,1;m0;" + "w30,0,1;".repeat(6) + " = 6", "come 0 = 29",
            "rain 20", "rain 20 = 360", "order -1 = 360", "order 0 = 0", "order 5 = 5", "laying -1 = 360", "laying 0 = 0");
    }

    private static void ordersRefused() {
        script.run("21: BAD: k not -1 to 5, too", "read d4,1;m0;m1;w4,0,4;s8,0,1; = 2", "order -2 = BAD", "order 6 = BAD",
            "order LEAST = BAD", "order MOST = BAD");
        script.run("21: STATE: no HOTEL (ahead of BAD)", "order -1 = STATE", "order 5 = STATE", "order -2 = STATE",
            "order 6 = STATE", "order LEAST = STATE", "order MOST = STATE");
    }

    private static void layings() {
        script.run("22: the MAT that lies at the k-th place, 0 to 3", "read d11,1;m2;m2;m3;m1;e15,0,3;w14,1,4; = 2",
            "come 0 = 1", "laying -1 = 1", "laying 0 = 3", "laying 1 = 2", "laying 2 = 1", "laying 3 = 0", "mat 0 0 = 2");
        script.run("22: as numbered now", "read d4,1;m0;m1;s8,0,1; = 1", "come 0 = 4", "laying -1 = 4", "laying 0 = 1",
            "laying 1 = 0", "change 0 = 1", "laying -1 = 4", "laying 0 = 0", "laying 1 = 1");
        script.run("22: of several the first", "read d60,1;m3;m2;m1;m0;w9,0,1; = 1", "laying -1 = 5", "laying 0 = 0",
            "laying 1 = 1", "laying 2 = 2", "laying 3 = 3");
        script.run("22: NONE: there are fewer", "read d60,1;m3;w9,0,1; = 1", "laying -1 = 8", "laying 0 = 0", "laying 1 = NONE",
            "laying 3 = NONE", "read d60,1;m3;m3;m3; = 0", "laying -1 = 0", "laying 2 = 2", "laying 3 = NONE");
    }

    private static void layingsRefused() {
        script.run("22: BAD: k not -1 to 3, too", "read d60,1;m3;w9,0,1; = 1", "laying -2 = BAD", "laying 4 = BAD",
            "laying LEAST = BAD", "laying MOST = BAD");
        script.run("22: STATE: no HOTEL (ahead of BAD)", "laying -1 = STATE", "laying 3 = STATE", "laying -2 = STATE",
            "laying 4 = STATE", "laying MOST = STATE");
    }

    private static void beatings() {
        String two = "read d4,1;m0;m1;w8,0,4;w8,0,4; = 2";
        script.run("23: the fewest MATS, so that no more than q is CARRIED in", two, "come 0 = 0", "beating 3 16 0 = 0",
            "beating 3 16 1 = 0", "beating 3 15 0 = 1", "beating 3 15 1 = 1", "beating 3 12 0 = 1", "beating 3 11 0 = 2",
            "beating 3 11 1 = 3", "beating 3 8 0 = 2", "beating 3 8 1 = 3");
        script.run("23: NONE", two, "come 0 = 0", "beating 3 7 0 = NONE", "beating 3 7 1 = NONE", "beating 3 0 0 = NONE",
            "beating 3 0 1 = NONE");
        script.run("23: for told COMERS: none, one, the other, all", two, "come 0 = 0", "beating 0 0 0 = 0",
            "beating 0 0 1 = 0", "beating 1 0 0 = 2", "beating 1 0 1 = 3", "beating 2 0 1 = 3", "beating 2 7 1 = 1",
            "beating 3 200 0 = 0");
        script.run("23: the fewest, though its bits are more", "read d4,1;m0;m1;m5;g4,5,2;w12,0,4; = 2", "come 1 = 0",
            "beating 1 0 0 = 1", "beating 1 0 1 = 4");
        script.run("23: of several the least", "read d4,1;m0;m0;m0;m0;w16,0,4;w4,0,4; = 2", "come 0 = 0", "beating 2 0 0 = 1",
            "beating 2 0 1 = 1", "beating 1 8 0 = 2", "beating 1 8 1 = 3", "beating 1 4 1 = 7", "beating 1 0 0 = 4",
            "beating 1 0 1 = 15");
    }

    private static void beatingsRefused() {
        script.run("23: BAD: COMERS", "read d4,1;m0;m1;w8,0,4;w8,0,4; = 2", "beating 3 0 0 = NONE", "beating 4 0 0 = BAD",
            "beating 7 0 0 = BAD", "beating -1 0 0 = BAD", "beating LEAST 0 0 = BAD", "beating MOST 0 0 = BAD",
            "beating 64 0 0 = BAD");
        script.run("23: BAD: COMERS, of none, of six", "read d4,1;m0; = 0", "beating 0 0 0 = 0", "beating 1 0 0 = BAD",
            "read d60,1;m0;" + "w1,0,1;".repeat(6) + " = 6", "beating 63 0 0 = 0", "beating 64 0 0 = BAD");
        script.run("23: BAD: q, what", "read d4,1;m0;m1;w8,0,4; = 1", "beating 1 0 0 = 0", "beating 1 -1 0 = BAD",
            "beating 1 200 0 = 0", "beating 1 201 0 = BAD", "beating 1 LEAST 0 = BAD", "beating 1 MOST 0 = BAD",
            "beating 1 0 -1 = BAD", "beating 1 0 2 = BAD", "beating 1 0 LEAST = BAD", "beating 1 0 MOST = BAD");
        script.run("23: STATE: no HOTEL (ahead of BAD)", "beating 0 0 0 = STATE", "beating -1 0 0 = STATE",
            "beating 64 0 0 = STATE", "beating 0 -1 0 = STATE", "beating 0 201 0 = STATE", "beating 0 0 2 = STATE",
            "beating 0 0 -1 = STATE");
    }

    private static void pacts() {
        script.run("24: pairs of MATS that are AT ONE", "read d60,1;m2;m2;m2;m2;w4,2,1; = 1", "pacts 0 = 0", "pacts 1 = NONE",
            "come 0 = 0", "pacts 0 = 6", "pacts 1 = 1", "beat 0", "pacts 0 = 3", "pacts 1 = 12", "beat 1", "pacts 0 = 1",
            "pacts 1 = 23", "beat 2", "pacts 0 = 0", "pacts 1 = NONE");
        script.run("24: the first: 10 times the lesser, and the greater", "read d60,1;m0;m4;m4;m1;w4,0,1;w4,1,1; = 2", "come 0",
            "pacts 1 = NONE", "come 1", "pacts 0 = 1", "pacts 1 = 3");
        script.run("24: one MAT has none", "read d60,1;m2;w4,2,1; = 1", "come 0", "pacts 0 = 0", "pacts 1 = NONE");
        script.run("24: BAD", "read d60,1;m2;m2;w4,2,1; = 1", "pacts -1 = BAD", "pacts 2 = BAD", "pacts LEAST = BAD",
            "pacts MOST = BAD");
        script.run("24: STATE: no HOTEL (ahead of BAD)", "pacts 0 = STATE", "pacts 1 = STATE", "pacts -1 = STATE",
            "pacts 2 = STATE");
    }

    private static void could() {
        script.run("25: behind whose COMING now, once, they would be AT ONE",
            "read d60,3;m1;m1;w9,1,2;w9,1,3;w9,1,4;w9,0,9; = 4", "could 0 1 = 6", "could 1 0 = 6", "come 0", "could 0 1 = 7",
            "come 0", "atOne 0 1 = 1", "could 0 1 = 15", "beat 1", "could 0 1 = 6");
        script.run("25: what the MAT takes", "read d3,3;m1;m1;w9,0,1;w9,1,3; = 2", "could 0 1 = 2", "come 0", "could 0 1 = 0");
        script.run("25: nobody, all six", "read d60,3;m1;m1; = 0", "could 0 1 = 0",
            "read d60,3;m1;m1;" + "w9,1,3;".repeat(6) + " = 6", "could 0 1 = 63");
        script.run("25: BAD: a MAT with itself, too", "read d60,1;m1;m1;w9,1,2; = 1", "could 0 0 = BAD", "could 1 1 = BAD",
            "could -1 0 = BAD", "could 0 -1 = BAD", "could 2 0 = BAD", "could 0 2 = BAD", "could 0 3 = BAD",
            "could LEAST 0 = BAD", "could 0 MOST = BAD");
        script.run("25: BAD: no HOTEL", "could 0 1 = BAD", "could 0 0 = BAD");
    }

    private static void who() {
        script.run("26: as many ITEMS as there are MATS: four of 40", "read d60,1;m0;m1;m2;m3;w9,0,1; = 1", "row 0 0 40",
            "set 0 36 1", "set 0 37 1", "set 0 38 1", "set 0 39 1", "who 0 36 = 1", "who 0 35 = 0", "who 0 37 = PLACE",
            "row 1 1 4", "who 1 0 = 0", "who 1 1 = PLACE", "row 2 2 3", "who 2 0 = PLACE", "row 3 0 0", "who 3 0 = PLACE");
        script.run("26: one of 40", "read d60,1;m0;w9,0,1; = 1", "row 0 0 40", "set 0 39 1", "who 0 39 = 1", "who 0 0 = 0",
            "who 0 40 = PLACE", "row 1 0 1", "set 1 0 1", "who 1 0 = 1", "who 1 1 = PLACE", "row 2 0 0", "who 2 0 = PLACE");
        script.run("26: how much lies there in all, behind one's COMING", "read d60,1;m0;w9,0,9;w9,5,9;w6,3,9; = 3",
            "3 times come 0", "3 times come 1", "row 0 0 1", "set 0 0 60", "who 0 0 = 7", "set 0 0 54", "who 0 0 = 0",
            "beat 0 = 54", "set 0 0 9", "who 0 0 = 3", "set 0 0 6", "who 0 0 = 4");
        script.run("26: all six, nobody", "read d60,1;m0;" + "w9,0,1;".repeat(6) + " = 6", "row 0 1 1", "set 0 0 1",
            "who 0 0 = 63", "set 0 0 -1", "who 0 0 = 0", "set 0 0 257", "who 0 0 = 0", "read d60,1;m0; = 0", "set 0 0 0",
            "who 0 0 = 0");
        script.run("26: every MAT counts", "read d60,1;m0;m0;w9,0,1;s3,0,1; = 2", "row 0 2 2", "set 0 0 1", "who 0 0 = 2",
            "set 0 1 1", "who 0 0 = 1", "set 0 0 0", "who 0 0 = 0");
    }

    private static void whoRefused() {
        script.run("26: BAD: ROW", "read d60,1;m0;w9,0,1; = 1", "who -1 0 = BAD", "who 8 0 = BAD", "who LEAST 0 = BAD",
            "who MOST 0 = BAD", "who 7 0 = NULL", "who 0 0 = NULL");
        script.run("26: STATE: no HOTEL (ahead of BAD), ahead of FINDINGS", "row 0 0 4", "who 0 0 = STATE", "who 8 0 = STATE",
            "who -1 0 = STATE", "who 1 0 = STATE", "who 0 9 = STATE");
        script.run("26: NULL, then PLACE", "read d60,1;m0;w9,0,1; = 1", "who 0 -1 = NULL", "status = 1", "row 0 0 4",
            "who 0 -1 = PLACE", "status = 2", "who 0 4 = PLACE", "who 0 LEAST = PLACE", "who 0 MOST = PLACE", "drop 0",
            "who 0 0 = NULL");
    }

    private static void fits() {
        script.run("27: SORTS: bits 1 to 5", "read d60,1;m0;w30,0,9; = 1", "row 0 0 1", "set 0 0 9", "fits 0 0 0 0 = 2",
            "set 0 0 18", "fits 0 0 0 0 = 4", "set 0 0 0", "fits 0 0 0 0 = 8", "set 0 0 15", "fits 0 0 0 0 = 48", "set 0 0 30",
            "fits 0 0 0 0 = 0", "read d60,1;m0;w0,0,9; = 1", "set 0 0 0", "fits 0 0 0 0 = 62");
        script.run("27: SOILS: 0 to 29, bits", "read d60,1;m0;w30,0,9; = 1", "row 0 0 1", "set 0 0 9",
            "fits 0 0 0 1 = 1073741312", "set 0 0 0", "fits 0 0 0 1 = 1", "set 0 0 8", "fits 0 0 0 1 = 256",
            "read d60,1;m0;s30,0,9; = 1", "set 0 0 14", "fits 0 0 0 1 = 805306368", "set 0 0 15", "fits 0 0 0 1 = 0",
            "set 0 0 0", "fits 0 0 0 1 = 3");
        script.run("27: SOILS: all 30", "read d60,1;m0;t9,0,9; = 1", "row 0 0 1", "fits 0 0 0 1 = 1073741823");
        script.run("27: MANNERS: 1 to 9, bits", "read d60,1;m0;w30,0,5; = 1", "row 0 0 1", "set 0 0 1", "fits 0 0 0 2 = 2",
            "set 0 0 9", "fits 0 0 0 2 = 512", "set 0 0 0", "fits 0 0 0 2 = 0", "set 0 0 10", "fits 0 0 0 2 = 0",
            "read d60,1;m0;e30,0,5; = 1", "set 0 0 15", "fits 0 0 0 2 = 1022");
        script.run("27: FROM: 0 to 5, bits", "read d60,1;m5;g30,3,9; = 1", "row 0 0 1", "set 0 0 18", "fits 0 0 0 3 = 32",
            "set 0 0 9", "fits 0 0 0 3 = 31", "read d60,1;m0;g30,3,9; = 1", "set 0 0 18", "fits 0 0 0 3 = 1", "set 0 0 9",
            "fits 0 0 0 3 = 62", "read d60,1;m0;w30,3,9; = 1", "fits 0 0 0 3 = 63", "set 0 0 1", "fits 0 0 0 3 = 0");
        script.run("27: of one who has more than 30 on his feet", "read d60,1;m0;s30,0,9; = 1", "rain 20", "rain 20",
            "row 0 0 1", "set 0 0 30", "fits 0 0 0 0 = 48", "fits 0 0 0 1 = 0", "fits 0 0 0 2 = 1022", "fits 0 0 0 3 = 63",
            "comer 0 0 = 60", "kind 0 = 4");
    }

    private static void fitsRefused() {
        script.run("27: BAD: COMER", "read d60,1;m0;w30,0,9;w30,0,9; = 2", "row 0 0 1", "fits -1 0 0 0 = BAD",
            "fits 2 0 0 0 = BAD", "fits 6 0 0 0 = BAD", "fits LEAST 0 0 0 = BAD", "fits MOST 0 0 0 = BAD", "fits 1 0 0 0 = 8",
            "read d60,1;m0; = 0", "fits 0 0 0 0 = BAD");
        script.run("27: BAD: ROW, what", "read d60,1;m0;w30,0,9; = 1", "row 0 0 1", "fits 0 -1 0 0 = BAD", "fits 0 8 0 0 = BAD",
            "fits 0 0 0 -1 = BAD", "fits 0 0 0 4 = BAD", "fits 0 0 0 LEAST = BAD", "fits 0 MOST 0 0 = BAD", "fits 0 0 0 3 = 0");
        script.run("27: BAD ahead of NULL, NULL ahead of PLACE", "read d60,1;m0;m0;w30,0,9; = 1", "fits 1 5 0 0 = BAD",
            "fits 0 5 0 4 = BAD", "fits 0 5 -1 0 = NULL", "fits 0 5 0 0 = NULL", "status = 1");
        script.run("27: PLACE", "read d60,1;m0;m0;w30,0,9; = 1", "row 5 0 3", "fits 0 5 1 0 = 0", "fits 0 5 2 0 = PLACE",
            "fits 0 5 -1 0 = PLACE", "fits 0 5 3 0 = PLACE", "fits 0 5 LEAST 0 = PLACE", "fits 0 5 MOST 0 = PLACE",
            "status = 2", "row 6 0 1", "fits 0 6 0 0 = PLACE", "row 6 0 0", "fits 0 6 0 0 = PLACE");
    }

    private static void absent() {
        String six = "read d1,1;m0;" + "s1,0,1;".repeat(6) + " = 6";
        script.run("28: in lowest terms", six, "absent 0 1 0 = 1", "absent 0 1 1 = 1000000", "absent 5 1 0 = 468559",
            "absent 5 1 1 = 1000000", "absent 0 5 0 = 1", "absent 0 5 1 = 64", "absent 5 5 0 = 63", "absent 5 5 1 = 64",
            "absent 0 9 0 = 531441", "absent 0 9 1 = 1000000");
        script.run("28: q, or less: all of them is 1 by 1", six, "absent 6 1 0 = 1", "absent 6 1 1 = 1", "absent 200 9 0 = 1",
            "absent 200 9 1 = 1");
        script.run("28: c 0 to 10: nobody stays away, all do", six, "absent 5 0 0 = 0", "absent 5 0 1 = 1", "absent 6 0 0 = 1",
            "absent 6 0 1 = 1", "absent 0 10 0 = 1", "absent 0 10 1 = 1");
        script.run("28: 0 is 0 by 1", "read d1,1;m0;s9,0,1; = 1", "absent 0 0 0 = 0", "absent 0 0 1 = 1", "absent 7 0 0 = 0",
            "absent 7 0 1 = 1", "absent 8 0 0 = 1");
        script.run("28: nobody to stay away", "read d1,1;m0; = 0", "absent 0 0 0 = 1", "absent 0 5 1 = 1", "absent 0 10 0 = 1");
        script.run("28: all COME now, by numbers", "read d1,1;m0;w2,0,1;w1,0,1; = 2", "absent 0 4 0 = 2", "absent 0 4 1 = 5",
            "absent 1 4 0 = 16", "absent 1 4 1 = 25", "come 1", "absent 1 4 0 = 2", "absent 1 4 1 = 5", "absent 2 4 0 = 16",
            "absent 2 4 1 = 25", "read d4,1;m0;m1;w4,0,4;s8,0,1; = 2", "absent 7 0 0 = 0", "absent 8 0 0 = 1");
    }

    private static void absentRefused() {
        script.run("28: BAD", "read d1,1;m0;s9,0,1; = 1", "absent -1 0 0 = BAD", "absent 201 0 0 = BAD", "absent 200 0 0 = 1",
            "absent 0 -1 0 = BAD", "absent 0 11 0 = BAD", "absent 0 0 -1 = BAD", "absent 0 0 2 = BAD", "absent LEAST 0 0 = BAD",
            "absent MOST 0 0 = BAD", "absent 0 LEAST 0 = BAD", "absent 0 MOST 0 = BAD", "absent 0 0 MOST = BAD");
        script.run("28: STATE: no HOTEL (ahead of BAD)", "absent 0 0 0 = STATE", "absent -1 0 0 = STATE",
            "absent 201 0 0 = STATE", "absent 0 11 0 = STATE", "absent 0 -1 0 = STATE", "absent 0 0 2 = STATE");
    }

    private static void drawn() {
        script.run("29: n 0 to 60, a SEED 1 to 999999", "read " + ALL_SORTS + " = 6", "drawn 0 1 0 = 0", "drawn 0 1 1 = 0",
            "drawn 1 1 0 = 19", "drawn 1 1 1 = 10", "drawn 60 1 0 = 1030", "drawn 60 1 1 = 125", "drawn 1 999999 0 = 19",
            "drawn 1 999999 1 = 9", "drawn 59 999999 0 = 1315", "drawn 59 999999 1 = 240", "drawn 60 999999 0 = 1342",
            "drawn 60 999999 1 = 180");
        script.run("29: from what lies there now on", "read d9,1;m0;w4,0,3; = 1", "come 0 = 1", "drawn 0 1 0 = 0",
            "drawn 0 1 1 = 3", "drawn 1 1 1 = 3", "drawn 2 1 1 = 3", "drawn 3 1 1 = 6", "drawn 3 1 0 = 3", "mat 0 1 = 3");
        script.run("29: nobody: nobody", "read d9,1;m0;m1; = 0", "drawn 60 1 0 = 0", "drawn 60 999999 1 = 0");
    }

    private static void drawnRefused() {
        script.run("29: BAD", "read d9,1;m0;w4,0,3; = 1", "drawn -1 1 0 = BAD", "drawn 61 1 0 = BAD", "drawn LEAST 1 0 = BAD",
            "drawn MOST 1 0 = BAD", "drawn 1 0 0 = BAD", "drawn 1 -1 0 = BAD", "drawn 1 1000000 0 = BAD",
            "drawn 1 LEAST 0 = BAD", "drawn 1 MOST 0 = BAD", "drawn 0 0 0 = BAD", "drawn 1 1 -1 = BAD", "drawn 1 1 2 = BAD",
            "drawn 1 1 MOST = BAD");
        script.run("29: STATE: no HOTEL (ahead of BAD)", "drawn 0 1 0 = STATE", "drawn -1 1 0 = STATE", "drawn 61 1 0 = STATE",
            "drawn 0 0 0 = STATE", "drawn 0 1000000 0 = STATE", "drawn 0 1 2 = STATE");
    }

    /** "q (0 to 200)": where 200, and where 201 is CARRIED in. */
    private static void carriedIn200() {
        String five = "d1,1;m0;" + "w30,0,1;".repeat(5);
        script.run("23, 28: 200 is CARRIED in", "read " + five + "w20,0,1; = 6", "come 0 = 29", "rain 5 = 200",
            "absent 200 0 0 = 1", "absent 199 0 0 = 0", "absent 199 0 1 = 1", "beating 63 200 0 = 0", "beating 63 199 0 = 1",
            "beating 63 199 1 = 1", "beating 63 198 0 = NONE");
        script.run("23, 28: 201 is CARRIED in", "read " + five + "w21,0,1; = 6", "come 0 = 29", "rain 5 = 201",
            "absent 200 0 0 = 0", "absent 200 0 1 = 1", "beating 63 200 0 = 1", "beating 63 200 1 = 1",
            "beating 63 199 1 = NONE");
    }
}
