/** The boundary cases of promises 6 to 8 and of TEXTS and FAULTS, sentence by sentence: feed, hotel, fault. */
final class BoundsReadingTest {
    private static final Check check = new Check();
    private static final Script script = new Script(check);
    private static final String LAW = "d9,1;", HOUSE = "d9,1;m0;", SORTS = "wgtse";

    public static void main(String[] args) {
        bytes();
        fullTapes();
        everyByteAtEveryPlace();
        numbersInTheirBounds();
        runsOfFigures();
        matsAndComersInTheirBounds();
        theLongestText();
        firstTokenOfSeveral();
        leastOfOneToken();
        ends();
        inPlaceOfTheOneBefore();
        allStays();
        latestFault();
        check.end();
    }

    private static void bytes() {
        script.run("6: a byte (0 to 255): how many it has", "feed 0 = 1", "feed 255 = 2", "feed 128 = 3", "count 7 = 3");
        script.run("6: BAD", "feed 100 = 1", "feed -1 = BAD", "feed 256 = BAD", "feed LEAST = BAD", "feed MOST = BAD",
            "feed 44 = 2", "count 7 = 2");
    }

    private static void fullTapes() {
        script.run("6: THE TAPE has at most 100 bytes; FULL", "98 times feed 97", "feed 97 = 99", "feed 97 = 100",
            "feed 97 = FULL", "feed 97 = FULL", "count 7 = 100", "hotel = FAULT0", "count 7 = 0", "feed 97 = 1");
        script.run("6: BAD ahead of FULL", "100 times feed 97", "feed 256 = BAD", "feed -1 = BAD", "feed 255 = FULL",
            "feed 0 = FULL");
        script.run("6: FULL, tape behind tape, up to the last call", "100 times feed 97", "feed 97 = FULL", "hotel = FAULT0",
            "100 times feed 100", "feed 97 = FULL", "hotel = FAULT1", "100 times feed 48", "feed 97 = FULL", "hotel = FAULT0",
            "type d9,1;m0;w1,0,1;", "85 times feed 59", "feed 97 = FULL", "hotel = FAULT15", "fault = 1", "count 7 = 0",
            "100 times feed 109", "feed 109 = FULL", "count 7 = 100");
    }

    /** A text with one byte at one place in place of what is there, which is read as told by number and place (-1: no FAULT). */
    private static void byteAt(String before, int letter, String behind, int place, int number, int comers) {
        script.run("7: byte " + letter + " behind " + before, "type " + before, "feed " + letter,
            "read " + behind + " = " + (number == 0 ? "" + comers : "FAULT" + place), "fault = " + number);
    }

    /** "TOKENS: letters a to z (each by itself), NUMBERS, SIGNS , and ; nothing else, no blanks." */
    private static void everyByteAtEveryPlace() {
        for (int letter = 0; letter < 256; letter++) {
            boolean isFigure = letter >= '0' && letter <= '9';
            boolean isSort = SORTS.indexOf(letter) >= 0;
            byteFirst(letter);
            int number = !isFigure ? 1 : letter == '0' ? 2 : 0;
            byteAt("d", letter, ",1;m0;", 1, number, 0);
            byteAt("d9", letter, "1;m0;", isFigure ? 1 : 2, letter == ',' ? 0 : 1, 0);
            byteAt("d9,1", letter, "m0;", isFigure ? 3 : 4, letter == ';' ? 0 : isFigure ? 2 : 1, 0);
            byteAt(LAW, letter, "0;", 5, letter == 'm' ? 0 : 1, 0);
            byteAt(HOUSE, letter, "1,0,1;", letter == 'm' ? 10 : 8, isSort ? 0 : 1, 1);
            if (letter == 'm') {
                byteAt(HOUSE + "w1,0,1;", letter, "0;", 15, 1, 0);
            } else {
                byteAt(HOUSE + "w1,0,1;", letter, "1,0,1;", 15, isSort ? 0 : 1, 2);
            }
        }
    }

    /** As "type" can't tell an empty text. */
    private static void byteFirst(int letter) {
        script.run("7: byte " + letter + " first", "feed " + letter, "read 9,1;m0; = " + (letter == 'd' ? "0" : "FAULT0"),
            "fault = " + (letter == 'd' ? 0 : 1));
    }

    /** All numbers of one and two figures at one place of a text; "2 a NUMBER that is not as told". */
    private static void numbers(String what, String before, String behind, int least, int most, int comers) {
        for (int number = 0; number < 100; number++) {
            boolean isTaken = number >= least && number <= most;
            String answer = isTaken ? "" + comers : "FAULT" + before.length();
            String[] spellings = number < 10 ? new String[] {"" + number, "0" + number} : new String[] {"" + number};
            for (String spelling : spellings) {
                script.run("7: " + what, "read " + before + spelling + behind + " = " + answer, "fault = " + (isTaken ? 0 : 2));
            }
        }
    }

    private static void numbersInTheirBounds() {
        numbers("LIMIT 1 to 60", "d", ",1;m0;", 1, 60, 0);
        numbers("BOND 1 to 9", "d9,", ";m0;", 1, 9, 0);
        numbers("COUNTRY of the first MAT, 0 to 5", "d9,1;m", ";", 0, 5, 0);
        numbers("COUNTRY of the last MAT, 0 to 5", "d9,1;m0;m0;m0;m", ";", 0, 5, 0);
        for (int i = 0; i < SORTS.length(); i++) {
            char sort = SORTS.charAt(i);
            numbers("SOIL 0 to 30", HOUSE + sort, ",0,1;", 0, 30, 1);
            numbers("FROM, a COUNTRY, 0 to 5", HOUSE + sort + "1,", ",1;", 0, 5, 1);
            numbers("MANNERS 1 to 9", HOUSE + sort + "1,0,", ";", 1, 9, 1);
        }
        script.run("7: the greatest of all are kept", "read d60,09;m05;e30,05,09; = 1", "count 3 = 60", "mat 0 0 = 5",
            "mat 0 2 = 60", "comer 0 0 = 30", "comer 0 1 = 5", "comer 0 2 = 9", "kind 0 = 5");
        script.run("7: the least of all are kept", "read d1,1;m0;w0,0,1; = 1", "count 3 = 1", "mat 0 0 = 0", "mat 0 2 = 1",
            "comer 0 0 = 0", "comer 0 1 = 0", "comer 0 2 = 1", "kind 0 = 1");
    }

    private static void runsOfFigures() {
        String[] before = {"d", "d9,", "d9,1;m", HOUSE + "w", HOUSE + "w1,", HOUSE + "w1,0,"};
        String[] behind = {",1;m0;", ";m0;", ";", ",0,1;", ",1;", ";"};
        for (int i = 0; i < before.length; i++) {
            for (String run : new String[] {"001", "005", "000", "100", "999", "0001", "123456789"}) {
                script.run("7: 1 a run of three figures, at its first",
                    "read " + before[i] + run + behind[i] + " = FAULT" + before[i].length(), "fault = 1");
                script.run("7: at the end, too", "read " + before[i] + run + " = FAULT" + before[i].length(), "fault = 1");
            }
        }
        script.run("7: a run of three figures where no NUMBER can stand", "read 001 = FAULT0", "fault = 1",
            "read d9,1;001 = FAULT5", "fault = 1", "read d9,1;m0;1 = FAULT8", "fault = 1", "read d9,1;m0;111 = FAULT8",
            "fault = 1");
        script.run("7: a tape of figures", "feed 100", "99 times feed 49", "hotel = FAULT1", "fault = 1");
    }

    private static void matsAndComersInTheirBounds() {
        script.run("7: law mat { mat }: one at least", "read d9,1; = FAULT5", "fault = 1", "read d9,1;w1,0,1; = FAULT5",
            "fault = 1", "read d9,1;m3; = 0", "count 1 = 1", "mat 0 0 = 3", "mat 1 0 = BAD");
        script.run("7: MATS 0 .. 3, 4 at most, one behind another", "read d9,1;m3;m1;m4;m5; = 0", "count 1 = 4", "mat 0 0 = 3",
            "mat 1 0 = 1", "mat 2 0 = 4", "mat 3 0 = 5", "mat 4 0 = BAD");
        script.run("7: 3 a mat more than there is room for (its letter)", "read d9,1;m0;m0;m0;m0;m0; = FAULT17", "fault = 3",
            "read d9,1;m0;m0;m0;m0;m = FAULT17", "fault = 3", "read d9,1;m0;m0;m0;m0;m9x = FAULT17", "fault = 3",
            "read d9,1;m0;m0;m0;m0;m0;m0; = FAULT17", "fault = 3");
        String six = "w1,0,1;g2,1,2;t3,2,3;s4,3,4;e5,4,5;w6,5,6;";
        script.run("7: { comer }: none", "read d9,1;m0; = 0", "count 2 = 0", "comer 0 0 = BAD");
        script.run("7: COMERS 0 .. 5, 6 at most", "read d9,1;m0;" + six + " = 6", "count 2 = 6", "comer 0 0 = 1",
            "comer 1 0 = 2", "comer 2 0 = 3", "comer 3 0 = 4", "comer 4 0 = 5", "comer 5 0 = 6", "comer 6 0 = BAD",
            "kind 0 = 1", "kind 1 = 2", "kind 2 = 3", "kind 3 = 4", "kind 4 = 5", "kind 5 = 1");
        for (int i = 0; i < SORTS.length(); i++) {
            char sort = SORTS.charAt(i);
            script.run("7: 3 a comer more than there is room for (its letter)",
                "read d9,1;m0;" + six + sort + "1,0,1; = FAULT50", "fault = 3", "read d9,1;m0;" + six + sort + " = FAULT50",
                "fault = 3", "read d9,1;m0;" + six + sort + "99,, = FAULT50", "fault = 3");
        }
    }

    private static void theLongestText() {
        String longest = "d60,09;m05;m05;m05;m05;" + "w30,05,09;".repeat(6);
        script.run("7: the longest text that can be read has 83 bytes", "read " + longest + " = 6", "count 7 = 0",
            "count 1 = 4", "count 2 = 6", "fault = 0");
        script.run("7: its end", "read " + longest.substring(0, 82) + " = FAULT82", "fault = 1");
        script.run("7: the farthest place of a FAULT", "read " + longest + "w = FAULT83", "fault = 3",
            "read " + longest + "m = FAULT83", "fault = 1");
        script.run("7: on a full tape", "type " + longest, "17 times feed 101", "feed 101 = FULL", "hotel = FAULT83",
            "fault = 3");
    }

    private static void firstTokenOfSeveral() {
        script.run("7: the first TOKEN that has one: 2 ahead of 1", "read d0;; = FAULT1", "fault = 2", "read d61x = FAULT1",
            "fault = 2", "read d9,0,1;m0; = FAULT3", "fault = 2", "read d9,1;m6,, = FAULT6", "fault = 2",
            "read d9,1;m0;w31;; = FAULT9", "fault = 2", "read d9,1;m0;w30,6 = FAULT12", "fault = 2");
        script.run("7: 1 ahead of 2", "read d,0;m0; = FAULT1", "fault = 1", "read d9;0 = FAULT2", "fault = 1",
            "read d9,1,m6; = FAULT4", "fault = 1", "read d9,1;m0,w31 = FAULT7", "fault = 1");
        script.run("7: 2 ahead of 3", "read d9,1;m0;m0;m0;m6;m0; = FAULT15", "fault = 2", "read d0,1;m0;m0;m0;m0;m0; = FAULT1",
            "fault = 2");
        script.run("7: 3 ahead of 1 and 2", "read d9,1;m0;m0;m0;m0;m;; = FAULT17", "fault = 3",
            "read d9,1;m0;m0;m0;m0;m99; = FAULT17", "fault = 3");
        script.run("7: two NUMBERS, the first", "read d0,0;m6;w31,6,0; = FAULT1", "fault = 2", "read d1,0;m6;w31,6,0; = FAULT3",
            "fault = 2", "read d1,1;m6;w31,6,0; = FAULT6", "fault = 2", "read d1,1;m5;w31,6,0; = FAULT9", "fault = 2",
            "read d1,1;m5;w30,6,0; = FAULT12", "fault = 2", "read d1,1;m5;w30,5,0; = FAULT14", "fault = 2",
            "read d1,1;m5;w30,5,1; = 1", "fault = 2");
    }

    private static void leastOfOneToken() {
        script.run("7: of one TOKEN the least: 1 ahead of 2", "read d000,1;m0; = FAULT1", "fault = 1",
            "read d999,1;m0; = FAULT1", "fault = 1", "read 99 = FAULT0", "fault = 1", "read d9,1;99 = FAULT5", "fault = 1",
            "read d9,1;m0;99 = FAULT8", "fault = 1");
        String six = "d9,1;m0;" + "w1,0,1;".repeat(6);
        script.run("7: 1 ahead of 3", "read d9,1;m0;m0;m0;m0;w1,0,1;m0; = FAULT24", "fault = 1",
            "read d9,1;m0;m0;m0;m0m0; = FAULT16", "fault = 1", "read " + six + "m0; = FAULT50", "fault = 1",
            "read " + six + "d = FAULT50", "fault = 1");
        script.run("7: a comer's letter where none can stand, though there is no room for him",
            "read " + six.substring(0, 49) + "w = FAULT49", "fault = 1", "read " + six + "; = FAULT50", "fault = 1");
    }

    /** "the end: how many bytes there are": every text that stops too early. */
    private static void ends() {
        String text = "d60,9;m5;m0;w30,5,9;e0,0,1;";
        String[] isWhole = {"d60,9;m5;", "d60,9;m5;m0;", "d60,9;m5;m0;w30,5,9;"};
        script.run("7: the end, though the tape before was longer", "read d99,99;m99;w99,99,99; = FAULT1", "fault = 2",
            "read d9 = FAULT2", "fault = 1", "read d9,9;m5;w9,5,9; = 1", "read d9,9 = FAULT4", "fault = 1",
            "read d9,9;m5 = FAULT7", "fault = 1", "read d9,9;m5; = 0", "count 2 = 0", "read d = FAULT1", "fault = 1",
            "hotel = FAULT0", "fault = 1");
        script.run("7: the end of an empty tape", "hotel = FAULT0", "fault = 1", "hotel = FAULT0");
        for (int length = 1; length < text.length(); length++) {
            String start = text.substring(0, length);
            boolean isTaken = start.equals(isWhole[0]) || start.equals(isWhole[1]) || start.equals(isWhole[2]);
            String answer = isTaken ? (start.equals(isWhole[2]) ? "1" : "0") : "FAULT" + length;
            script.run("7: the end of " + start, "read " + start + " = " + answer, "fault = " + (isTaken ? 0 : 1),
                "count 7 = 0");
        }
    }

    private static void inPlaceOfTheOneBefore() {
        script.run("7: nothing lies on MATS, nobody CAME", "read d60,1;m0;m1;w9,0,3;w9,1,3; = 2", "come 0", "come 1",
            "rain 5 = 28", "count 4 = 12", "read d60,1;m0;m1;w9,0,3;w9,1,3; = 2", "count 4 = 0", "count 5 = 0", "mat 0 1 = 0",
            "mat 1 3 = NONE", "comer 0 3 = 0", "comer 1 3 = 0", "comer 0 0 = 9");
        script.run("7: no ACT can be undone", "read d60,1;m0;w9,0,3; = 1", "24 times come 0", "count 6 = 24",
            "read d60,1;m0;w9,0,3; = 1", "count 6 = 0", "undo = STATE", "come 0 = 6", "undo = 0", "undo = STATE");
        script.run("7: fewer MATS and COMERS, and more again", "read d60,1;m1;m2;m3;m4;w9,0,3;g9,1,3; = 2", "come 0",
            "read d5,2;m5; = 0", "count 1 = 1", "count 2 = 0", "count 3 = 5", "mat 1 0 = BAD", "come 0 = BAD", "kind 0 = BAD",
            "rain 9 = 0", "read d60,1;m1;m2;m3;m4;w9,0,3;g9,1,3; = 2", "count 4 = 0", "mat 3 0 = 4", "comer 1 0 = 9",
            "comer 0 3 = 0");
        script.run("7: ROWS, TRACE, IMAGES are not of the HOTEL that is read", "read d60,1;m0;w9,0,3; = 1", "row 0 2 3",
            "ask 0 1 = 0", "image 1 = 1", "read d7,1;m0; = 0", "count 0 = 1", "trace 0 = 21", "trace 1 = 20", "restore 1 = 1",
            "count 3 = 60", "drop 0 = 3");
    }

    private static void allStays() {
        script.run("7: a FAULT: all stays", "read d9,2;m3;m4;w5,1,1; = 1", "image 0", "come 0 = 3", "rain 2 = 7", "row 0 2 3",
            "ask 0 0 = 8", "read d8,1;m1;m2;m0;m0;g9,0,1;g9,0, = FAULT29", "read d1,1;m1;m1;m1;m1;m1; = FAULT17",
            "read d8,1;m1;w0,0,0; = FAULT13", "count 3 = 9", "count 1 = 2", "count 2 = 1", "mat 0 0 = 3", "mat 1 1 = 1",
            "comer 0 0 = 7", "comer 0 3 = 1", "count 6 = 2", "undo = 1", "comer 0 0 = 5", "undo = 0", "count 4 = 0");
        script.run("7: a FAULT where there is no HOTEL", "read d9,2;m3;m4;w5,1,0; = FAULT16", "count 1 = 0", "count 2 = 0",
            "count 3 = 0", "clean = STATE", "come 0 = BAD");
        script.run("7: the tape, empty then, behind a FAULT, too", "read d9,2;m3;, = FAULT8", "count 7 = 0",
            "read d9,2;m3; = 0", "count 7 = 0", "hotel = FAULT0");
    }

    private static void latestFault() {
        script.run("8: 0 before one", "fault = 0", "read d9,1;m0; = 0", "fault = 0", "feed 300 = BAD", "fault = 0");
        script.run("8: the latest", "hotel = FAULT0", "fault = 1", "read d0 = FAULT1", "fault = 2",
            "read d9,1;m0;m0;m0;m0;m = FAULT17", "fault = 3", "read x = FAULT0", "fault = 1");
        script.run("8: the latest is the latest behind a text without one", "read d0 = FAULT1", "fault = 2",
            "read d9,1;m0; = 0", "fault = 2", "fault = 2");
    }
}
