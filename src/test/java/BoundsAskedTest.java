/** The boundary cases of promises 30 to 35, sentence by sentence: IMAGES, KINDS, ASKS, THE TRACE. */
final class BoundsAskedTest {
    private static final Check check = new Check();
    private static final Script script = new Script(check);
    private static final String ALL = "d60,9;m0;w11,0,1;g12,0,1;t13,0,1;s14,0,1;e15,0,1;w16,0,1;";

    public static void main(String[] args) {
        images();
        imagesRefused();
        restores();
        restoresRefused();
        kinds();
        as();
        asRefused();
        asks();
        asksRefused();
        trace();
        lastCalls();
        check.end();
    }

    private static void images() {
        script.run("30: an IMAGE (0, 1), each by itself", "read d60,1;m0;w9,0,1; = 1", "image 0 = 1", "come 0 = 8",
            "image 1 = 1", "come 0 = 8", "restore 0 = 1", "count 5 = 0", "restore 1 = 1", "count 5 = 1", "restore 0 = 1",
            "count 5 = 0", "count 4 = 0");
        script.run("30: kept in place of the one before", "read d60,1;m0;w9,0,1; = 1", "image 0 = 1", "come 0 = 8",
            "image 0 = 1", "come 0 = 8", "restore 0 = 1", "count 5 = 1", "restore 1 = STATE");
        script.run("30: ACTS can be undone yet", "read d60,1;m0;w9,0,1; = 1", "24 times come 0", "image 1 = 1", "count 6 = 24",
            "undo = 23", "count 5 = 23", "restore 1 = 1", "count 5 = 24");
    }

    private static void imagesRefused() {
        script.run("30: BAD", "read d60,1;m0;w9,0,1; = 1", "image -1 = BAD", "image 2 = BAD", "image LEAST = BAD",
            "image MOST = BAD", "restore 0 = STATE", "restore 1 = STATE", "image 1 = 1");
        script.run("30: STATE: no HOTEL; BAD ahead of it", "image 0 = STATE", "image 1 = STATE", "image 2 = BAD",
            "image -1 = BAD", "restore 0 = STATE");
    }

    private static void restores() {
        script.run("31: as an IMAGE kept it (no ACT can be undone then)", "read d60,1;m0;m1;w9,0,1; = 1", "come 0 = 7",
            "image 0 = 1", "beat 0", "rain 20 = 29", "change 0 = 1", "count 6 = 4", "restore 0 = 1", "count 6 = 0",
            "undo = STATE", "comer 0 0 = 9", "comer 0 3 = 1", "mat 0 0 = 0", "mat 0 1 = 1", "mat 1 1 = 1", "come 0 = 7",
            "undo = 0", "undo = STATE", "count 4 = 2");
        script.run("31: an IMAGE stays kept", "read d60,1;m0;w9,0,1; = 1", "image 1 = 1", "come 0 = 8", "restore 1 = 1",
            "come 0 = 8", "come 0 = 8", "restore 1 = 1", "count 5 = 0", "count 4 = 0", "restore 1 = 1");
        script.run("31: in place of another HOTEL", "read d60,2;m0;m1;m2;m3;g9,0,1;w8,0,1; = 2", "image 0 = 1",
            "read d5,9;m5; = 0", "image 1 = 1", "restore 0 = 1", "count 1 = 4", "count 2 = 2", "count 3 = 60", "mat 3 0 = 3",
            "kind 0 = 2", "comer 1 0 = 8", "restore 1 = 1", "count 1 = 1", "count 2 = 0", "count 3 = 5", "mat 0 0 = 5",
            "mat 1 0 = BAD", "comer 0 0 = BAD");
        script.run("31: BOND, too", "read d60,2;m1;m1;w9,1,2; = 1", "image 0 = 1", "read d60,3;m1;m1;w9,1,2; = 1", "come 0",
            "atOne 0 1 = 0", "restore 0 = 1", "come 0", "atOne 0 1 = 1");
        script.run("31: ROWS, tape, FAULT, TRACE are not of the HOTEL", "read d60,2;m1;w9,1,2; = 1", "image 0 = 1",
            "hotel = FAULT0", "row 0 0 3", "type d9", "ask 0 1 = 0", "drop 1 = NULL", "restore 0 = 1", "count 0 = 1",
            "count 7 = 2", "fault = 1", "trace 1 = 20", "status = 1");
    }

    private static void restoresRefused() {
        script.run("31: BAD", "read d60,1;m0;w9,0,1; = 1", "image 0 = 1", "image 1 = 1", "come 0", "restore -1 = BAD",
            "restore 2 = BAD", "restore LEAST = BAD", "restore MOST = BAD", "count 6 = 1");
        script.run("31: STATE: none was kept", "restore 0 = STATE", "restore 1 = STATE", "restore 2 = BAD",
            "read d60,1;m0;w9,0,1; = 1", "come 0", "restore 0 = STATE", "image 1 = 1", "restore 0 = STATE", "restore 1 = 1");
    }

    private static void kinds() {
        script.run("32: as told (1 to 5)", "read " + ALL + " = 6", "kind 0 = 1", "kind 1 = 2", "kind 2 = 3", "kind 3 = 4",
            "kind 4 = 5", "kind 5 = 1");
        script.run("32: BAD", "read " + ALL + " = 6", "kind -1 = BAD", "kind 6 = BAD", "kind LEAST = BAD", "kind MOST = BAD",
            "read d9,1;m0;w1,0,1; = 1", "kind 1 = BAD", "kind 5 = BAD", "read d9,1;m0; = 0", "kind 0 = BAD");
    }

    private static void as() {
        String read = "read " + ALL + " = 6";
        script.run("33: a WIPER is a COMER", read, "as 0 0 = 0", "as 0 1 = 0", "as 0 2 = KIND", "as 0 3 = KIND",
            "as 0 4 = KIND", "as 0 5 = KIND", "as 5 0 = 5", "as 5 1 = 5");
        script.run("33: a GUEST is a WIPER", read, "as 1 0 = 1", "as 1 1 = 1", "as 1 2 = 1", "as 1 3 = KIND", "as 1 4 = KIND",
            "as 1 5 = KIND");
        script.run("33: a THIEF is a WIPER", read, "as 2 0 = 2", "as 2 1 = 2", "as 2 2 = KIND", "as 2 3 = 2", "as 2 4 = KIND",
            "as 2 5 = KIND");
        script.run("33: a STAMPER is a COMER", read, "as 3 0 = 3", "as 3 1 = KIND", "as 3 2 = KIND", "as 3 3 = KIND",
            "as 3 4 = 3", "as 3 5 = KIND");
        script.run("33: an ENVOY is a STAMPER", read, "as 4 0 = 4", "as 4 1 = KIND", "as 4 2 = KIND", "as 4 3 = KIND",
            "as 4 4 = 4", "as 4 5 = 4");
    }

    private static void asRefused() {
        script.run("33: BAD", "read " + ALL + " = 6", "as -1 0 = BAD", "as 6 0 = BAD", "as 0 -1 = BAD", "as 0 6 = BAD",
            "as LEAST 0 = BAD", "as MOST 0 = BAD", "as 0 LEAST = BAD", "as 0 MOST = BAD", "as 6 6 = BAD", "status = 0");
        script.run("33: KIND", "read " + ALL + " = 6", "as 0 5 = KIND", "status = 3", "as 0 6 = BAD", "status = 3",
            "as 6 5 = BAD", "status = 3", "as 0 1 = 0", "status = 0");
    }

    private static void asks() {
        script.run("34: SIZE of each KIND, whoever CAME twice", "read " + ALL + " = 6", "2 times come 0", "2 times come 1",
            "2 times come 2", "2 times come 3", "2 times come 4", "ask 0 0 = 13", "ask 1 0 = -18", "ask 2 0 = -983",
            "ask 3 0 = -86", "ask 4 0 = -170", "ask 5 0 = 21");
        script.run("34: MARK of each KIND, whoever CAME twice", "read " + ALL + " = 6", "2 times come 0", "2 times come 1",
            "2 times come 2", "2 times come 3", "2 times come 4", "ask 0 1 = 2", "ask 1 1 = 6", "ask 2 1 = -996",
            "ask 3 1 = 89", "ask 4 1 = 174", "ask 5 1 = 5");
        script.run("34: SOIL 0 and 60", "read d60,9;m0;s0,0,1;e0,0,1;w0,0,1;g0,0,1; = 4", "ask 0 0 = -100", "ask 1 0 = -200",
            "ask 2 0 = 2", "ask 3 0 = -6", "3 times rain 20", "ask 0 0 = -40", "ask 1 0 = -80", "ask 2 0 = 62", "ask 3 0 = -66",
            "ask 1 1 = 81", "3 times undo", "ask 1 1 = 201");
    }

    private static void asksRefused() {
        script.run("34: BAD", "read " + ALL + " = 6", "ask 3 0 = -86", "ask -1 0 = BAD", "ask 6 0 = BAD", "ask 0 -1 = BAD",
            "ask 0 2 = BAD", "ask LEAST 0 = BAD", "ask 0 MOST = BAD", "trace 0 = 13", "trace 1 = 10", "trace 2 = NONE");
    }

    private static void trace() {
        script.run("35: THE TRACE is empty ahead of an ASK", "read " + ALL + " = 6", "trace 0 = NONE", "ask 1 0 = -14",
            "trace 5 = 20", "ask 5 1 = 5", "trace 0 = 21", "trace 1 = 20", "trace 2 = NONE", "trace 5 = NONE");
        script.run("35: the most that an ASK leaves there", "read " + ALL + " = 6", "ask 1 0 = -14", "trace 0 = 12",
            "trace 1 = 11", "trace 2 = 10", "trace 3 = 24", "trace 4 = 21", "trace 5 = 20", "trace 6 = NONE", "trace 15 = NONE",
            "trace 16 = NONE");
        script.run("35: of each KIND: SIZE", "read " + ALL + " = 6", "ask 0 0", "trace 0 = 11", "trace 1 = 10", "trace 2 = 21",
            "trace 3 = 20", "trace 4 = NONE", "ask 2 0", "trace 0 = 11", "trace 1 = 10", "trace 2 = 22", "trace 3 = 21",
            "trace 4 = 20", "trace 5 = NONE", "ask 3 0", "trace 0 = 13", "trace 1 = 10", "trace 2 = NONE", "ask 4 0",
            "trace 0 = 14", "trace 1 = 13", "trace 2 = 10", "trace 3 = NONE");
        script.run("35: of each KIND: MARK", "read " + ALL + " = 6", "ask 1 1", "trace 0 = 24", "trace 1 = 21", "trace 2 = 20",
            "trace 3 = NONE", "ask 2 1", "trace 0 = 22", "trace 1 = 21", "trace 2 = 20", "trace 3 = NONE", "ask 3 1",
            "trace 0 = 23", "trace 1 = 20", "trace 2 = 13", "trace 3 = 10", "trace 4 = NONE", "ask 4 1", "trace 0 = 23",
            "trace 1 = 20", "trace 2 = 14", "trace 3 = 13", "trace 4 = 10", "trace 5 = NONE");
        script.run("35: NONE", "trace -1 = NONE", "read " + ALL + " = 6", "ask 1 0", "trace -1 = NONE", "trace LEAST = NONE",
            "trace MOST = NONE", "trace 6 = NONE");
    }

    /** "An object is used for at most 512 calls after it has been made": the last of them is answered as due, too. */
    private static void lastCalls() {
        script.run("512 calls", "read " + ALL + " = 6", "400 times come 0", "50 times undo", "count 5 = 376", "count 6 = 0",
            "ask 0 1 = 376");
        script.run("the 512th call", "read d60,1;m0;w0,0,1; = 1", "492 times come 0 = 0", "ask 0 1 = 492", "trace 0 = 21",
            "comer 0 3 = 492");
    }
}
