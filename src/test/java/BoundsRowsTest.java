/** The boundary cases of promises 1 to 5 and 37, sentence by sentence: a new object, row, set, copy, drop, status. */
final class BoundsRowsTest {
    private static final Check check = new Check();
    private static final Script script = new Script(check);

    public static void main(String[] args) {
        aNewObject();
        rowsInPlace();
        rowsRefused();
        itemsCut();
        itemsRefused();
        copiesTaken();
        copiesRefused();
        drops();
        statusOfFindings();
        statusLeft();
        check.end();
    }

    private static void aNewObject() {
        script.run("1: No HOTEL", "count 1 = 0", "count 2 = 0", "count 3 = 0", "count 4 = 0", "count 5 = 0", "come 0 = BAD",
            "beat 0 = BAD", "change 0 = BAD", "rain 1 = STATE", "comer 0 0 = BAD", "mat 0 0 = BAD", "soil 0 0 = BAD",
            "atOne 0 0 = BAD", "leaves 0 0 = BAD", "carries 0 = BAD", "clean = STATE", "order -1 = STATE", "laying -1 = STATE",
            "beating 0 0 0 = STATE", "pacts 0 = STATE", "could 0 1 = BAD", "who 0 0 = STATE", "fits 0 0 0 0 = BAD",
            "absent 0 0 0 = STATE", "drawn 0 1 0 = STATE", "image 0 = STATE", "kind 0 = BAD", "as 0 0 = BAD", "ask 0 0 = BAD");
        script.run("Terms: ROWS 0 .. 7 are missing (at first)", "count 0 = 0", "drop 0 = NULL", "drop 1 = NULL",
            "drop 2 = NULL", "drop 3 = NULL", "drop 4 = NULL", "drop 5 = NULL", "drop 6 = NULL", "drop 7 = NULL",
            "set 0 0 0 = NULL", "set 7 0 0 = NULL", "copy 0 0 7 0 0 = NULL");
        script.run("1: no tape, no FAULT, no ACT, no IMAGE, no TRACE, no status", "count 7 = 0", "fault = 0", "count 6 = 0",
            "undo = STATE", "restore 0 = STATE", "restore 1 = STATE", "trace 0 = NONE", "trace 15 = NONE", "status = 0");
    }

    private static void rowsInPlace() {
        script.run("2: n ITEMS, 0 to 40", "row 0 0 0 = 0", "set 0 0 1 = PLACE", "row 0 0 1 = 1", "set 0 0 1 = 1",
            "set 0 1 1 = PLACE", "row 0 0 40 = 40", "set 0 39 1 = 1", "set 0 40 1 = PLACE");
        script.run("2: all eight ROWS", "row 0 0 40 = 40", "row 1 1 40 = 40", "row 2 2 40 = 40", "row 3 0 40 = 40",
            "row 4 1 40 = 40", "row 5 2 40 = 40", "row 6 0 40 = 40", "row 7 1 40 = 40", "count 0 = 8", "row 7 2 0 = 0",
            "count 0 = 8");
        script.run("2: of a LANE, 0 to 2", "row 0 0 1 = 1", "set 0 0 70000 = 112", "row 0 1 1 = 1", "set 0 0 70000 = 4464",
            "row 0 2 1 = 1", "set 0 0 70000 = 70000");
        script.run("2: in place of what is there, ITEMS 0 at first", "read d60,1;m0;w0,0,1; = 1", "row 0 2 40 = 40",
            "set 0 0 7 = 7", "set 0 39 7 = 7", "who 0 0 = 0", "who 0 39 = 0", "row 0 2 40 = 40", "who 0 0 = 1", "who 0 39 = 1",
            "row 0 2 2 = 2", "who 0 1 = 1", "who 0 2 = PLACE", "row 0 2 40 = 40", "who 0 39 = 1");
        script.run("2: 0 at first, where a ROW was dropped", "read d60,1;m0;w0,0,1; = 1", "row 3 0 2 = 2", "set 3 1 9 = 9",
            "drop 3 = 2", "row 3 0 2 = 2", "who 3 1 = 1");
    }

    private static void rowsRefused() {
        script.run("2: BAD: ROW", "row -1 0 1 = BAD", "row 8 0 1 = BAD", "row LEAST 0 1 = BAD", "row MOST 0 1 = BAD",
            "row 7 0 1 = 1", "row 0 0 1 = 1");
        script.run("2: BAD: LANE", "row 0 2 3 = 3", "set 0 2 5 = 5", "row 0 -1 1 = BAD", "row 0 3 1 = BAD",
            "row 0 LEAST 1 = BAD", "row 0 MOST 1 = BAD", "set 0 2 5 = 5");
        script.run("2: BAD: n above 40", "row 0 2 3 = 3", "set 0 2 5 = 5", "row 0 0 41 = BAD", "row 0 0 MOST = BAD",
            "row 1 0 41 = BAD");
        script.run("2: SIZE", "row 0 0 -1 = SIZE", "status = 4", "row 1 2 3 = 3", "set 1 2 5 = 5", "row 1 0 -1 = SIZE",
            "row 1 2 LEAST = SIZE", "row 0 2 0 = 0");
        script.run("2: BAD ahead of SIZE", "row 8 0 -1 = BAD", "row -1 0 -1 = BAD", "row 0 3 -1 = BAD", "row 0 -1 -1 = BAD",
            "status = 0");
    }

    private static void itemsCut() {
        script.run("3: lowest bits of bytes", "row 0 0 1", "set 0 0 127 = 127", "set 0 0 128 = -128", "set 0 0 255 = -1",
            "set 0 0 256 = 0", "set 0 0 -128 = -128", "set 0 0 -129 = 127", "set 0 0 MOST = -1", "set 0 0 LEAST = 0");
        script.run("3: lowest bits of shorts", "row 0 1 1", "set 0 0 32767 = 32767", "set 0 0 32768 = -32768",
            "set 0 0 65535 = -1", "set 0 0 65536 = 0", "set 0 0 -32768 = -32768", "set 0 0 -32769 = 32767", "set 0 0 MOST = -1",
            "set 0 0 LEAST = 0");
        script.run("3: all bits of ints", "row 0 2 1", "set 0 0 MOST = 2147483647", "set 0 0 LEAST = -2147483648",
            "set 0 0 -1 = -1", "set 0 0 65536 = 65536");
        script.run("3: ITEM i becomes v, as cut", "read d60,1;m0;w4,0,9; = 1", "row 0 0 3", "set 0 1 260 = 4", "who 0 1 = 1",
            "who 0 0 = 0", "who 0 2 = 0", "row 1 1 1", "set 1 0 65540 = 4", "who 1 0 = 1", "row 2 2 1", "set 2 0 65540 = 65540",
            "who 2 0 = 0");
    }

    private static void itemsRefused() {
        script.run("3: BAD: ROW", "row 0 2 1", "row 7 2 1", "set -1 0 5 = BAD", "set 8 0 5 = BAD", "set LEAST 0 5 = BAD",
            "set MOST 0 5 = BAD", "set 0 0 5 = 5", "set 7 0 5 = 5");
        script.run("3: NULL", "set 0 0 5 = NULL", "row 0 0 1 = 1", "drop 0 = 1", "set 0 0 5 = NULL", "status = 1");
        script.run("3: PLACE", "row 0 2 3", "set 0 -1 5 = PLACE", "set 0 3 5 = PLACE", "set 0 LEAST 5 = PLACE",
            "set 0 MOST 5 = PLACE", "status = 2", "set 0 0 5 = 5", "set 0 2 5 = 5");
        script.run("3: BAD ahead of PLACE, NULL ahead of PLACE", "set 8 -1 5 = BAD", "set 0 -1 5 = NULL", "set 7 40 5 = NULL");
    }

    private static void copiesTaken() {
        script.run("4: as they were ahead, upwards by one", "read d60,1;m0;w0,0,9;w1,0,9;w2,0,9;w3,0,9;w4,0,9; = 5",
            "row 0 0 5", "set 0 1 1", "set 0 2 2", "set 0 3 3", "set 0 4 4", "copy 0 0 0 1 4 = 4", "who 0 0 = 1", "who 0 1 = 1",
            "who 0 2 = 2", "who 0 3 = 4", "who 0 4 = 8");
        script.run("4: as they were ahead, downwards by one", "read d60,1;m0;w0,0,9;w1,0,9;w2,0,9;w3,0,9;w4,0,9; = 5",
            "row 0 0 5", "set 0 1 1", "set 0 2 2", "set 0 3 3", "set 0 4 4", "copy 0 1 0 0 4 = 4", "who 0 0 = 2", "who 0 1 = 4",
            "who 0 2 = 8", "who 0 3 = 16", "who 0 4 = 16");
        script.run("4: n 0, at both ends, too", "row 0 1 3", "row 1 1 0", "set 0 2 7", "copy 0 0 1 0 0 = 0",
            "copy 0 3 1 0 0 = 0", "copy 1 0 0 3 0 = 0", "copy 0 3 0 3 0 = 0", "copy 0 4 1 0 0 = PLACE",
            "copy 0 0 1 1 0 = PLACE", "copy 1 0 0 4 0 = PLACE");
        script.run("4: all 40 of one to another, and to itself", "read d60,1;m0;w0,0,9;w9,0,9; = 2", "row 6 2 40", "row 7 2 40",
            "set 6 0 9", "set 6 39 9", "copy 6 0 7 0 40 = 40", "who 7 0 = 2", "who 7 1 = 1", "who 7 39 = 2",
            "copy 7 0 7 0 40 = 40", "who 7 39 = 2", "copy 6 0 7 0 41 = PLACE");
        script.run("4: what lies about is left", "read d60,1;m0;w0,0,9;w9,0,9; = 2", "row 0 0 3", "row 1 0 3", "set 0 0 9",
            "set 0 1 9", "set 0 2 9", "copy 0 1 1 1 1 = 1", "who 1 0 = 1", "who 1 1 = 2", "who 1 2 = 1");
    }

    private static void copiesRefused() {
        script.run("4: BAD: ROWS", "row 0 0 2", "row 7 0 2", "set 0 0 1", "copy -1 0 0 0 1 = BAD", "copy 0 0 -1 0 1 = BAD",
            "copy 8 0 0 0 1 = BAD", "copy 0 0 8 0 1 = BAD", "copy MOST 0 LEAST 0 1 = BAD", "copy 0 0 7 0 1 = 1");
        script.run("4: NULL, of the one, of the other, of both", "row 0 0 2", "set 0 0 1", "copy 0 0 1 0 1 = NULL",
            "copy 1 0 0 0 1 = NULL", "copy 1 0 1 0 0 = NULL", "copy 1 0 2 0 0 = NULL", "status = 1");
        script.run("4: STORE (ROWS of two LANES)", "row 0 0 2", "row 1 1 2", "row 2 2 2", "set 0 0 1", "copy 0 0 1 0 1 = STORE",
            "copy 1 0 0 0 1 = STORE", "copy 1 0 2 0 2 = STORE", "copy 0 0 2 0 0 = STORE", "status = 5");
        script.run("4: PLACE (i, j, n below 0)", "row 0 0 3", "row 1 0 3", "set 0 0 1", "copy 0 -1 1 0 1 = PLACE",
            "copy 0 0 1 -1 1 = PLACE", "copy 0 0 1 0 -1 = PLACE", "copy 0 1 1 1 -1 = PLACE", "copy 0 -1 1 0 0 = PLACE",
            "copy 0 0 1 -1 0 = PLACE", "copy 0 LEAST 1 0 1 = PLACE", "copy 0 0 1 LEAST 1 = PLACE", "copy 0 0 1 0 LEAST = PLACE",
            "status = 2");
        script.run("4: PLACE (beyond an end)", "row 0 0 3", "row 1 0 2", "set 0 0 1", "set 0 1 2", "set 0 2 3",
            "copy 0 0 1 0 3 = PLACE", "copy 0 0 1 1 2 = PLACE", "copy 1 0 0 0 3 = PLACE", "copy 1 1 0 0 2 = PLACE",
            "copy 0 2 1 0 2 = PLACE", "copy 0 0 1 0 2 = 2", "copy 0 1 1 0 2 = 2", "copy 0 2 1 1 1 = 1");
        script.run("4: PLACE (where i and n together wrap around)", "row 0 0 3", "row 1 0 3", "set 0 0 1",
            "copy 0 MOST 1 0 1 = PLACE", "copy 0 0 1 MOST 1 = PLACE", "copy 0 1 1 1 MOST = PLACE",
            "copy 0 MOST 1 MOST MOST = PLACE", "copy 0 LEAST 1 0 LEAST = PLACE");
        script.run("4: BAD, then NULL, then STORE, then PLACE", "row 0 0 3", "row 1 1 3", "copy 5 -1 8 0 1 = BAD",
            "copy 0 -1 5 0 1 = NULL", "copy 5 -1 0 0 1 = NULL", "copy 0 -1 1 0 1 = STORE", "copy 0 0 1 0 4 = STORE",
            "copy 0 0 1 0 -1 = STORE", "copy 0 -1 0 0 1 = PLACE");
    }

    private static void drops() {
        script.run("5: how many ITEMS it had, 0 to 40", "row 0 0 0", "row 7 2 40", "count 0 = 2", "drop 0 = 0", "count 0 = 1",
            "drop 7 = 40", "count 0 = 0");
        script.run("5: BAD", "row 0 0 1", "row 7 0 1", "drop -1 = BAD", "drop 8 = BAD", "drop LEAST = BAD", "drop MOST = BAD",
            "count 0 = 2");
        script.run("5: NULL: it is missing from now on", "row 0 0 3", "drop 0 = 3", "drop 0 = NULL", "status = 1",
            "set 0 0 1 = NULL", "copy 0 0 0 0 0 = NULL", "row 0 0 2 = 2", "drop 0 = 2");
    }

    private static void statusOfFindings() {
        script.run("37: 0: there was none", "status = 0", "read d9,1;m0;w1,0,1; = 1", "come 0", "status = 0");
        script.run("37: NULL is 1, PLACE 2, KIND 3, SIZE 4, STORE 5", "read d9,1;m0;w1,0,1; = 1", "drop 0 = NULL", "status = 1",
            "row 0 0 1 = 1", "set 0 1 0 = PLACE", "status = 2", "as 0 2 = KIND", "status = 3", "row 0 0 -1 = SIZE",
            "status = 4", "row 1 1 1 = 1", "copy 0 0 1 0 1 = STORE", "status = 5");
        script.run("37: of who() and fits(), too", "read d9,1;m0;w1,0,1; = 1", "who 0 0 = NULL", "status = 1", "row 0 0 1 = 1",
            "who 0 1 = PLACE", "status = 2", "who 0 0 = 0", "status = 0", "fits 0 0 1 0 = PLACE", "status = 2",
            "fits 0 1 0 0 = NULL", "status = 1", "fits 0 0 0 0 = 56", "status = 0");
        script.run("37: 0: it had none", "read d9,1;m0;w1,0,1; = 1", "drop 0 = NULL", "row 0 0 1 = 1", "status = 0",
            "drop 1 = NULL", "set 0 0 1 = 1", "status = 0", "drop 1 = NULL", "copy 0 0 0 0 1 = 1", "status = 0",
            "drop 1 = NULL", "as 0 1 = 0", "status = 0", "drop 1 = NULL", "drop 0 = 1", "status = 0");
    }

    private static void statusLeft() {
        script.run("37: that was not BAD", "read d9,1;m0;w1,0,1; = 1", "drop 0 = NULL", "row 8 0 1 = BAD", "set 8 0 0 = BAD",
            "copy 8 0 0 0 0 = BAD", "drop 8 = BAD", "who 8 0 = BAD", "fits 0 8 0 0 = BAD", "as 0 6 = BAD", "as 1 0 = BAD",
            "status = 1");
        script.run("37: not STATE", "set 0 0 0 = NULL", "who 0 0 = STATE", "status = 1");
        script.run("37: not FULL, nor a call without a ROW", "row 0 0 -1 = SIZE", "100 times feed 44", "feed 44 = FULL",
            "hotel = FAULT0", "read d9,1;m0;w1,0,1; = 1", "come 0 = 0", "ask 0 0 = 2", "beat 0 = 1", "undo = 1", "image 0 = 1",
            "restore 0 = 1", "count 8 = BAD", "kind 9 = BAD", "restore 1 = STATE", "status = 4");
    }
}
