import java.util.ArrayList;
import java.util.List;

/** The boundary cases of promises 9 to 17 and 36, sentence by sentence: COMING, ACTS, what lies where, count. */
final class BoundsActsTest {
    private static final Check check = new Check();
    private static final Script script = new Script(check);
    private static final String SIX = "w1,0,1;w1,0,1;w1,0,1;w1,0,1;w1,0,1;w1,0,1;";

    public static void main(String[] args) {
        comers();
        neverMoreThanHeHas();
        norThanTheMatTakes();
        guestsAndThieves();
        stampersAndEnvoys();
        mat0IsTheOneThatLiesFirst();
        beats();
        changes();
        rains();
        rainsRefused();
        undoesOneOfEach();
        keepsTwentyFour();
        goesRoundAndRound();
        tellsOfComers();
        tellsOfMats();
        masters();
        soils();
        atOne();
        atOneRefused();
        counts();
        check.end();
    }

    private static void comers() {
        script.run("9: One COMES; BAD", "read d60,1;m0;" + SIX + " = 6", "come 0 = 0", "come 5 = 0", "come -1 = BAD",
            "come 6 = BAD", "come LEAST = BAD", "come MOST = BAD", "count 5 = 2", "comer 0 3 = 1", "comer 5 3 = 1");
        script.run("9: BAD: fewer COMERS than there may be", "read d60,1;m0;w1,0,1; = 1", "come 1 = BAD", "come 5 = BAD",
            "come 0 = 0");
        script.run("9: BAD: nobody", "read d60,1;m0; = 0", "come 0 = BAD");
        script.run("9: he has SOIL on his feet whenever he COMES", "read d60,1;m0;w9,0,4; = 1", "come 0 = 5", "come 0 = 5",
            "come 0 = 5", "comer 0 0 = 9", "mat 0 1 = 12", "comer 0 3 = 3");
    }

    private static void neverMoreThanHeHas() {
        script.run("9: never more than he has yet", "read d60,1;m0;w0,0,9;w8,0,9;w9,0,9;w10,0,9; = 4", "come 0 = 0",
            "mat 0 1 = 0", "come 1 = 0", "mat 0 1 = 8", "come 2 = 0", "mat 0 1 = 17", "come 3 = 1", "mat 0 1 = 26");
        script.run("9: never more than he has yet, MAT by MAT", "read d60,1;m0;m0;m0;m0;w10,0,4; = 1", "come 0 = 0",
            "mat 0 1 = 4", "mat 1 1 = 4", "mat 2 1 = 2", "mat 3 1 = 0");
    }

    private static void norThanTheMatTakes() {
        script.run("9: nor than the MAT takes", "read d5,1;m0;m0;w30,0,4; = 1", "come 0 = 22", "mat 0 2 = 1", "come 0 = 28",
            "mat 0 1 = 5", "mat 0 2 = 0", "come 0 = 30", "mat 0 1 = 5", "mat 1 1 = 5");
        script.run("9: LIMIT 1", "read d1,1;m0;w30,0,9; = 1", "come 0 = 29", "mat 0 2 = 0", "come 0 = 30");
        script.run("9: LIMIT 60", "read d60,1;m0;w30,0,9; = 1", "6 times come 0 = 21", "mat 0 2 = 6", "come 0 = 24",
            "mat 0 1 = 60", "come 0 = 30");
        script.run("9: LIMIT less all that lies there, of all COUNTRIES", "read d10,1;m0;w9,0,6;w9,5,6; = 2", "come 0 = 3",
            "come 1 = 5", "soil 0 0 = 6", "soil 0 5 = 4", "mat 0 2 = 0", "come 0 = 9");
    }

    private static void guestsAndThieves() {
        script.run("9: a guest: twice as much on a MAT of the COUNTRY he is FROM", "read d60,1;m2;m3;g30,3,9; = 1",
            "come 0 = 3", "mat 0 1 = 9", "mat 1 1 = 18");
        script.run("9: twice as much, but no more than he has", "read d60,1;m3;g17,3,9;g18,3,9;g19,3,9; = 3", "come 0 = 0",
            "mat 0 1 = 17", "come 1 = 0", "mat 0 1 = 35", "come 2 = 1", "mat 0 1 = 53");
        script.run("9: twice as much, but no more than it takes", "read d17,1;m3;g30,3,9; = 1", "come 0 = 13", "mat 0 1 = 17");
        script.run("9: a thief: nothing on MAT 0", "read d60,1;m0;t30,0,9; = 1", "come 0 = 30", "mat 0 1 = 0",
            "read d60,1;m0;m0;t30,0,9; = 1", "come 0 = 21", "mat 0 1 = 0", "mat 1 1 = 9");
    }

    private static void stampersAndEnvoys() {
        script.run("9: a stamper: half (cut) on MAT 0, else nothing",
            "read d60,1;m0;m0;s0,0,1;s1,0,1;s2,0,1;s3,0,1;s30,0,1; = 5", "come 0 = 0", "come 1 = 1", "mat 0 1 = 0",
            "come 2 = 1", "mat 0 1 = 1", "come 3 = 2", "mat 0 1 = 2", "come 4 = 15", "mat 0 1 = 17", "mat 1 1 = 0", "rain 20",
            "rain 20", "come 4 = 30", "mat 0 1 = 47", "come 4 = 47", "mat 0 1 = 60", "mat 1 1 = 0");
        script.run("9: an envoy: half of what he has yet (cut) on each", "read d60,1;m0;m0;m0;m0;e7,0,9;e1,0,9;e0,0,9; = 3",
            "come 0 = 1", "mat 0 1 = 3", "mat 1 1 = 2", "mat 2 1 = 1", "mat 3 1 = 0", "come 1 = 1", "come 2 = 0",
            "count 4 = 6");
        script.run("9: an envoy, where MATS take less", "read d1,1;m0;m0;e9,0,9; = 1", "come 0 = 7", "mat 0 1 = 1",
            "mat 1 1 = 1", "come 0 = 9");
    }

    private static void mat0IsTheOneThatLiesFirst() {
        script.run("9: from MAT 0 on, when MATS were changed", "read d60,1;m0;m1;t9,0,3;s8,0,1;g9,1,2; = 3", "come 0 = 6",
            "mat 1 1 = 3", "change 0 = 1", "mat 0 1 = 3", "come 0 = 6", "mat 0 1 = 3", "mat 1 1 = 3", "come 1 = 4",
            "mat 0 1 = 7", "come 2 = 3", "mat 0 1 = 11", "mat 1 1 = 5");
    }

    private static void beats() {
        script.run("10: how much lay there: all, nothing", "read d60,1;m0;m1;w30,0,9; = 1", "10 times come 0", "mat 0 1 = 60",
            "beat 0 = 60", "mat 0 1 = 0", "mat 0 2 = 60", "mat 1 1 = 60", "beat 0 = 0", "count 6 = 12", "undo = 11",
            "mat 0 1 = 0", "undo = 10", "mat 0 1 = 60");
        script.run("10: BAD", "read d60,1;m0;m1;m2;m3;w30,0,9; = 1", "come 0 = 0", "beat -1 = BAD", "beat 4 = BAD",
            "beat LEAST = BAD", "beat MOST = BAD", "beat 3 = 3", "beat 0 = 9");
        script.run("10: BAD: fewer MATS than there may be", "read d60,1;m0;w30,0,9; = 1", "come 0 = 21", "beat 1 = BAD",
            "beat 3 = BAD", "beat 0 = 9");
    }

    private static void changes() {
        script.run("11: the COUNTRY of the one that lies at its place then", "read d60,1;m0;m1;m2;m3; = 0", "change 0 = 1",
            "change 2 = 3", "mat 0 0 = 1", "mat 1 0 = 0", "mat 2 0 = 3", "mat 3 0 = 2");
        script.run("11: BAD: there is none behind it, too", "read d60,1;m0;m1;m2;m3; = 0", "change 3 = BAD", "change 2 = 3",
            "change 4 = BAD", "change -1 = BAD", "change LEAST = BAD", "change MOST = BAD");
        script.run("11: BAD: two MATS, one MAT", "read d60,1;m0;m1; = 0", "change 1 = BAD", "change 0 = 1",
            "read d60,1;m4; = 0", "change 0 = BAD", "change 1 = BAD");
        script.run("11: with all that lies there", "read d60,1;m0;m1;t9,3,4;w2,5,1; = 2", "come 0", "come 1", "change 0 = 1",
            "soil 0 3 = 4", "soil 0 5 = 1", "soil 1 3 = 0", "soil 1 5 = 1", "undo = 2", "soil 0 3 = 0", "soil 1 3 = 4",
            "mat 0 0 = 0");
    }

    private static void rains() {
        script.run("12: v 1 to 20", "read d60,1;m0;w0,0,1;w5,0,1; = 2", "rain 1 = 7", "rain 20 = 47", "comer 0 0 = 21",
            "comer 1 0 = 26");
        script.run("12: 60 at most, and what was cut comes back", "read d60,1;m0;w0,0,1;w30,0,1; = 2", "rain 1 = 32",
            "rain 20 = 72", "rain 9 = 90", "comer 1 0 = 60", "rain 1 = 91", "rain 20 = 111", "rain 20 = 120", "rain 20 = 120",
            "comer 0 0 = 60", "count 6 = 7", "undo = 6", "comer 0 0 = 60", "undo = 5", "comer 0 0 = 51", "comer 1 0 = 60",
            "undo = 4", "comer 0 0 = 31", "undo = 3", "comer 0 0 = 30", "comer 1 0 = 60", "undo = 2", "comer 0 0 = 21",
            "comer 1 0 = 51");
        script.run("12: 59 and 1", "read d60,1;m0;w29,0,1; = 1", "rain 20 = 49", "rain 10 = 59", "rain 1 = 60", "rain 1 = 60",
            "read d60,1;m0;w29,0,1; = 1", "rain 20 = 49", "rain 12 = 60");
        script.run("12: SOIL of all together: nobody, six", "read d60,1;m0; = 0", "rain 20 = 0", "count 6 = 1", "undo = 0",
            "read d60,1;m0;" + SIX + " = 6", "rain 20 = 126", "rain 20 = 246", "rain 20 = 360");
    }

    private static void rainsRefused() {
        script.run("12: BAD", "read d60,1;m0;w9,0,1; = 1", "rain 0 = BAD", "rain 21 = BAD", "rain -1 = BAD", "rain LEAST = BAD",
            "rain MOST = BAD", "comer 0 0 = 9", "count 6 = 0");
        script.run("12: STATE: no HOTEL (ahead of BAD)", "rain 1 = STATE", "rain 20 = STATE", "rain 0 = STATE",
            "rain 21 = STATE", "rain LEAST = STATE");
    }

    private static void undoesOneOfEach() {
        script.run("13: each can be undone, the latest first", "read d60,1;m0;m1;w9,2,4; = 1", "come 0 = 1", "beat 0 = 4",
            "change 0 = 1", "rain 5 = 14", "come 0 = 6", "count 6 = 5", "undo = 4", "comer 0 3 = 1", "mat 0 1 = 4",
            "comer 0 0 = 14", "undo = 3", "comer 0 0 = 9", "mat 0 0 = 1", "undo = 2", "mat 0 0 = 0", "mat 0 1 = 0",
            "mat 1 1 = 4", "undo = 1", "mat 0 1 = 4", "comer 0 3 = 1", "undo = 0", "count 4 = 0", "comer 0 3 = 0",
            "undo = STATE");
        script.run("13: STATE: none", "undo = STATE", "read d60,1;m0;w9,2,4; = 1", "undo = STATE", "come 0 = 5", "undo = 0",
            "undo = STATE", "undo = STATE", "come 0 = 5", "undo = 0");
        script.run("13: what is refused is no ACT", "read d60,1;m0;w9,2,4; = 1", "come 1 = BAD", "beat 1 = BAD",
            "change 0 = BAD", "rain 0 = BAD", "count 6 = 0", "undo = STATE");
        script.run("13: what is FORETOLD is no ACT", "read d60,1;m0;m0;w9,2,4; = 1", "carries 0 = 1", "order -1 = 1",
            "laying -1 = 1", "beating 1 1 0 = 0", "drawn 9 9 0", "undo = STATE");
    }

    /** So many acts, and so many of them undone, with what each answers. */
    private static void keepsTwentyFour() {
        for (int acts = 22; acts <= 49; acts++) {
            int kept = Math.min(24, acts);
            List<String> lines = new ArrayList<>(List.of("read d60,1;m0;w1,1,1; = 1", acts + " times come 0 = 0",
                "count 6 = " + kept, "count 5 = " + acts));
            for (int left = kept - 1; left >= 0; left--) {
                lines.add("undo = " + left);
                lines.add("mat 0 1 = " + (acts - kept + left));
            }
            lines.addAll(List.of("undo = STATE", "count 5 = " + (acts - kept), "count 4 = " + (acts - kept)));
            script.run("13: 24 at most are kept, of more the oldest is forgotten: " + acts, lines.toArray(new String[0]));
        }
    }

    private static void goesRoundAndRound() {
        List<String> lines = new ArrayList<>(List.of("read d60,1;m0;w0,1,1; = 1"));
        int came = 0;
        int kept = 0;
        for (int round = 0; round < 8; round++) {
            int acts = 7 + 5 * round;
            came += acts;
            kept = Math.min(24, kept + acts);
            lines.add(acts + " times come 0 = 0");
            for (int back = 0; back < 9 && kept > 0; back++) {
                came--;
                kept--;
                lines.add("undo = " + kept);
            }
            lines.add("comer 0 3 = " + came);
            lines.add("count 6 = " + kept);
        }
        script.run("13: 24 at most, forwards and backwards over some hundred calls", lines.toArray(new String[0]));
    }

    private static void tellsOfComers() {
        script.run("14: what 0 to 3", "read d60,1;m0;w9,2,4;w8,1,3; = 2", "come 1", "comer 1 0 = 8", "comer 1 1 = 1",
            "comer 1 2 = 3", "comer 1 3 = 1", "comer 0 3 = 0");
        script.run("14: BAD", "read d60,1;m0;w9,2,4;w8,1,3; = 2", "comer 0 -1 = BAD", "comer 0 4 = BAD", "comer 0 LEAST = BAD",
            "comer 0 MOST = BAD", "comer -1 0 = BAD", "comer 2 0 = BAD", "comer 5 0 = BAD", "comer 6 0 = BAD",
            "comer LEAST 0 = BAD", "comer MOST 0 = BAD", "comer 2 4 = BAD");
    }

    private static void tellsOfMats() {
        script.run("15: what 0 to 3", "read d12,1;m5;m4;w9,2,8; = 1", "mat 1 0 = 4", "mat 0 1 = 0", "mat 0 2 = 12",
            "come 0 = 0", "mat 0 1 = 8", "mat 0 2 = 4", "mat 0 3 = 2", "mat 1 1 = 1", "mat 1 2 = 11", "come 0 = 0",
            "mat 0 1 = 12", "mat 0 2 = 0");
        script.run("15: BAD", "read d12,1;m5;m4; = 0", "mat 0 -1 = BAD", "mat 0 4 = BAD", "mat 0 LEAST = BAD",
            "mat 0 MOST = BAD", "mat -1 0 = BAD", "mat 2 0 = BAD", "mat 3 0 = BAD", "mat 4 0 = BAD", "mat LEAST 0 = BAD",
            "mat MOST 0 = BAD", "mat 2 4 = BAD");
    }

    private static void masters() {
        script.run("15: MASTER (NONE: nothing lies there)", "read d60,1;m5;t9,5,1; = 1", "mat 0 3 = NONE", "come 0 = 9",
            "mat 0 3 = NONE", "read d60,1;m5;w9,5,1; = 1", "come 0 = 8", "mat 0 3 = 5", "beat 0 = 1", "mat 0 3 = NONE",
            "undo = 1", "mat 0 3 = 5");
        script.run("15: MASTER, of several the least", "read d60,1;m5;w9,0,2;w9,3,2;w9,5,3; = 3", "come 1", "mat 0 3 = 3",
            "come 0", "mat 0 3 = 0", "come 2", "mat 0 3 = 5", "come 1", "mat 0 3 = 3", "come 0", "mat 0 3 = 0", "come 2",
            "mat 0 3 = 5", "come 1", "come 0", "mat 0 3 = 0");
        for (int one = 0; one < 6; one++) {
            for (int other = 0; other < 6; other++) {
                int least = Math.min(one, other);
                script.run("15: MASTER, every COUNTRY against every other",
                    "read d60,1;m5;w9," + one + ",2;w9," + other + ",2; = 2", "come 0", "mat 0 3 = " + one, "come 1",
                    "mat 0 3 = " + least, "come 1", "mat 0 3 = " + other, "soil 0 " + other + " = " + (one == other ? 6 : 4));
            }
        }
    }

    private static void soils() {
        script.run("16: of a COUNTRY (0 to 5)", "read d60,1;m3;m2;w4,0,3;w9,5,5; = 2", "come 0 = 0", "come 1 = 0",
            "soil 0 0 = 3", "soil 0 5 = 5", "soil 1 0 = 1", "soil 1 5 = 4", "soil 0 3 = 0", "soil 1 4 = 0");
        script.run("16: BAD", "read d60,1;m3;m2;w4,0,3; = 1", "soil 0 -1 = BAD", "soil 0 6 = BAD", "soil 0 LEAST = BAD",
            "soil 0 MOST = BAD", "soil -1 0 = BAD", "soil 2 0 = BAD", "soil LEAST 0 = BAD", "soil MOST 0 = BAD",
            "soil 2 6 = BAD");
    }

    private static void atOne() {
        script.run("17: BOND or more, 9", "read d60,9;m0;m1;w30,1,8;w30,0,9;w30,1,1; = 3", "come 1", "come 0", "atOne 0 1 = 0",
            "come 2", "atOne 0 1 = 1", "atOne 1 0 = 1", "undo", "atOne 0 1 = 0");
        script.run("17: BOND or more, 1", "read d60,1;m0;m1;w30,1,1;w30,0,1; = 2", "come 1", "atOne 0 1 = 0", "come 0",
            "atOne 0 1 = 1", "come 0", "atOne 0 1 = 1");
        script.run("17: on each of them", "read d60,1;m0;m1;t30,0,1;s2,1,1; = 2", "come 0", "atOne 0 1 = 0", "atOne 1 0 = 0",
            "come 1", "atOne 0 1 = 1", "beat 1", "atOne 0 1 = 0", "atOne 1 0 = 0", "undo", "beat 0", "atOne 0 1 = 0",
            "atOne 1 0 = 0");
        script.run("17: of the COUNTRY of the other one, not of its own", "read d60,1;m0;m1;s2,0,1;t2,1,1; = 2", "come 0",
            "come 1", "soil 0 0 = 1", "soil 1 1 = 1", "atOne 0 1 = 0");
        script.run("17: MATS of one COUNTRY, too", "read d60,2;m3;m3;w9,3,1; = 1", "come 0", "atOne 0 1 = 0", "come 0",
            "atOne 0 1 = 1", "beat 0", "atOne 0 1 = 0");
        script.run("17: the farthest of four", "read d60,1;m0;m5;m5;m1;w4,0,1;w4,1,1; = 2", "come 0", "come 1", "atOne 0 3 = 1",
            "atOne 3 0 = 1", "atOne 1 2 = 0", "atOne 0 2 = 0");
    }

    private static void atOneRefused() {
        script.run("17: a MAT with itself: 0", "read d60,1;m3;m3;w9,3,1; = 1", "atOne 0 0 = 0", "come 0", "atOne 0 0 = 0",
            "atOne 1 1 = 0", "atOne 0 1 = 1");
        script.run("17: BAD", "read d60,1;m3;m3;w9,3,1; = 1", "come 0", "atOne -1 0 = BAD", "atOne 0 -1 = BAD",
            "atOne 2 0 = BAD", "atOne 0 2 = BAD", "atOne 2 2 = BAD", "atOne -1 -1 = BAD", "atOne LEAST 0 = BAD",
            "atOne 0 MOST = BAD");
    }

    private static void counts() {
        script.run("36: BAD", "count -1 = BAD", "count 8 = BAD", "count LEAST = BAD", "count MOST = BAD");
        String rich = "w30,0,9;".repeat(6);
        script.run("36: each at its most", "8 times row 0 0 0", "count 0 = 1", "row 1 0 0", "row 2 0 0", "row 3 0 0",
            "row 4 0 0", "row 5 0 0", "row 6 0 0", "row 7 0 0", "count 0 = 8", "read d60,9;m0;m1;m2;m3;" + rich + " = 6",
            "count 1 = 4", "count 2 = 6", "count 3 = 60", "rain 20", "rain 20", "10 times come 0", "15 times come 5",
            "count 4 = 240", "count 5 = 25", "count 6 = 24", "100 times feed 100", "count 7 = 100", "feed 100 = FULL",
            "count 7 = 100");
        script.run("36: COMINGS and ACTS, some hundred", "read d60,1;m0;w9,0,9;w0,0,1; = 2", "200 times come 0",
            "200 times come 1", "count 5 = 400", "comer 0 3 = 200", "count 4 = 60", "count 6 = 24", "undo = 23",
            "count 5 = 399", "comer 1 3 = 199");
    }
}
