/** Promises 1 to 5 and 37: a new object, row, set, copy, drop, status. */
final class RowsTest {
    private static final Check check = new Check();

    public static void main(String[] args) {
        newObject();
        makesRows();
        setsItems();
        copiesItems();
        dropsRows();
        tellsStatus();
        check.end();
    }

    private static void newObject() {
        MatNations x = new MatNations();
        for (int what = 0; what < 8; what++) {
            check.due("1 count(" + what + ")", x.count(what), 0);
        }
        check.due("1 status", x.status(), 0);
        check.due("1 fault", x.fault(), 0);
        check.due("1 clean", x.clean(), Check.STATE);
        check.due("1 undo", x.undo(), Check.STATE);
        check.due("1 restore", x.restore(0), Check.STATE);
        check.due("1 trace", x.trace(0), Check.NONE);
        for (int row = 0; row < 8; row++) {
            check.due("1 drop", x.drop(row), Check.NULL);
        }
    }

    private static void makesRows() {
        MatNations x = new MatNations();
        check.due("2 none", x.row(0, 0, 0), 0);
        check.due("2 most", x.row(7, 2, 40), 40);
        check.due("2 rows", x.count(0), 2);
        check.due("2 row -1", x.row(-1, 0, 1), Check.BAD);
        check.due("2 row 8", x.row(8, 0, 1), Check.BAD);
        check.due("2 lane -1", x.row(1, -1, 1), Check.BAD);
        check.due("2 lane 3", x.row(1, 3, 1), Check.BAD);
        check.due("2 n 41", x.row(1, 0, 41), Check.BAD);
        check.due("2 n -1", x.row(1, 0, -1), Check.SIZE);
        check.due("2 n least", x.row(1, 0, Integer.MIN_VALUE), Check.SIZE);
        check.due("2 BAD ahead of SIZE", x.row(8, 0, -1), Check.BAD);
        check.due("2 rows yet", x.count(0), 2);
        check.due("2 found in place of one", x.row(7, 0, -1), Check.SIZE);
        check.due("2 which stays", x.set(7, 39, 70000), 70000);
        check.due("2 in its place", x.row(7, 1, 40), 40);
        check.due("2 of the new lane", x.set(7, 0, 70000), 4464);
        check.due("2 shorter", x.row(7, 1, 1), 1);
        check.due("2 end", x.set(7, 1, 0), Check.PLACE);
        itemsAreNoughtAtFirst();
    }

    /** A row of items can only be seen through who(), which compares it with what lies on the MATS. */
    private static void itemsAreNoughtAtFirst() {
        MatNations x = Check.hotel("d9,1;m0;w0,0,1;");
        x.row(0, 2, 3);
        for (int i = 0; i < 3; i++) {
            x.set(0, i, 5);
            check.due("2 set item", x.who(0, i), 0);
        }
        x.row(0, 2, 3);
        for (int i = 0; i < 3; i++) {
            check.due("2 new item", x.who(0, i), 1);
        }
    }

    private static void setsItems() {
        MatNations x = new MatNations();
        x.row(0, 0, 2);
        x.row(1, 1, 2);
        x.row(2, 2, 2);
        check.due("3 byte 127", x.set(0, 0, 127), 127);
        check.due("3 byte 128", x.set(0, 0, 128), -128);
        check.due("3 byte 256", x.set(0, 0, 256), 0);
        check.due("3 byte -129", x.set(0, 1, -129), 127);
        check.due("3 short 32767", x.set(1, 0, 32767), 32767);
        check.due("3 short 32768", x.set(1, 0, 32768), -32768);
        check.due("3 short -32769", x.set(1, 1, -32769), 32767);
        check.due("3 int most", x.set(2, 0, Integer.MAX_VALUE), Integer.MAX_VALUE);
        check.due("3 int least", x.set(2, 1, Integer.MIN_VALUE), Integer.MIN_VALUE);
        check.due("3 row -1", x.set(-1, 0, 0), Check.BAD);
        check.due("3 row 8", x.set(8, 0, 0), Check.BAD);
        check.due("3 missing", x.set(3, -1, 0), Check.NULL);
        check.due("3 place -1", x.set(0, -1, 0), Check.PLACE);
        check.due("3 place 2", x.set(0, 2, 0), Check.PLACE);
        check.due("3 place most", x.set(0, Integer.MAX_VALUE, 0), Check.PLACE);
        check.due("3 place least", x.set(0, Integer.MIN_VALUE, 0), Check.PLACE);
    }

    private static void copiesItems() {
        MatNations x = Check.hotel("d60,1;m0;w0,0,1;");
        x.row(0, 2, 5);
        x.row(1, 2, 3);
        x.row(2, 1, 3);
        for (int i = 0; i < 5; i++) {
            x.set(0, i, i);
        }
        check.due("4 row -1", x.copy(-1, 0, 0, 0, 0), Check.BAD);
        check.due("4 row 8", x.copy(0, 0, 8, 0, 0), Check.BAD);
        check.due("4 BAD ahead of NULL", x.copy(5, 0, 8, 0, 0), Check.BAD);
        check.due("4 NULL a", x.copy(5, 0, 2, 0, 0), Check.NULL);
        check.due("4 NULL b", x.copy(2, -1, 5, 0, 0), Check.NULL);
        check.due("4 STORE ahead of PLACE", x.copy(0, -1, 2, 0, 0), Check.STORE);
        check.due("4 STORE of none", x.copy(0, 0, 2, 0, 0), Check.STORE);
        check.due("4 i -1", x.copy(0, -1, 1, 0, 1), Check.PLACE);
        check.due("4 j -1", x.copy(0, 0, 1, -1, 1), Check.PLACE);
        check.due("4 n -1", x.copy(0, 1, 1, 1, -1), Check.PLACE);
        check.due("4 beyond a", x.copy(1, 1, 0, 0, 3), Check.PLACE);
        check.due("4 beyond b", x.copy(0, 0, 1, 1, 3), Check.PLACE);
        check.due("4 wraps", x.copy(0, Integer.MAX_VALUE, 1, 0, Integer.MAX_VALUE), Check.PLACE);
        check.due("4 wraps n", x.copy(0, 1, 1, 1, Integer.MAX_VALUE), Check.PLACE);
        check.due("4 none at the ends", x.copy(0, 5, 1, 3, 0), 0);
        check.due("4 upwards", x.copy(0, 0, 0, 1, 4), 4);
        itemsAre(x, 0, 0, 0, 1, 2, 3);
        check.due("4 downwards", x.copy(0, 2, 0, 0, 3), 3);
        itemsAre(x, 0, 1, 2, 3, 2, 3);
        check.due("4 to another", x.copy(0, 1, 1, 0, 3), 3);
        itemsAre(x, 1, 2, 3, 2);
        itemsAre(x, 0, 1, 2, 3, 2, 3);
    }

    /** A wiper who has nothing on his feet is told by a row that tells what lies there already. */
    private static void itemsAre(MatNations x, int row, int... items) {
        for (int i = 0; i < items.length; i++) {
            MatNations y = x;
            Check.read(y, "d60,1;m0;w" + items[i] + ",0,9;");
            check.due("item " + i + " of row " + row, y.who(row, i), 1);
        }
        check.due("end of row " + row, x.set(row, items.length, 0), Check.PLACE);
    }

    private static void dropsRows() {
        MatNations x = new MatNations();
        x.row(3, 1, 7);
        x.row(4, 1, 0);
        check.due("5 row -1", x.drop(-1), Check.BAD);
        check.due("5 row 8", x.drop(8), Check.BAD);
        check.due("5 seven", x.drop(3), 7);
        check.due("5 rows", x.count(0), 1);
        check.due("5 none", x.drop(4), 0);
        check.due("5 again", x.drop(4), Check.NULL);
        check.due("5 set", x.set(3, 0, 0), Check.NULL);
        check.due("5 rows yet", x.count(0), 0);
    }

    private static void tellsStatus() {
        MatNations x = Check.hotel("d9,1;m0;w1,0,1;");
        x.set(0, 0, 0);
        check.due("37 NULL", x.status(), 1);
        x.set(9, 0, 0);
        check.due("37 BAD leaves it", x.status(), 1);
        x.come(0);
        check.due("37 another call leaves it", x.status(), 1);
        x.row(0, 0, 2);
        check.due("37 none", x.status(), 0);
        x.set(0, 2, 0);
        check.due("37 PLACE", x.status(), 2);
        x.set(0, 1, 0);
        check.due("37 set", x.status(), 0);
        x.row(1, 0, -1);
        check.due("37 SIZE", x.status(), 4);
        x.copy(0, 0, 0, 0, 1);
        check.due("37 copy", x.status(), 0);
        x.row(1, 1, 1);
        x.copy(0, 0, 1, 0, 1);
        check.due("37 STORE", x.status(), 5);
        x.drop(1);
        check.due("37 drop", x.status(), 0);
        x.as(0, 4);
        check.due("37 KIND", x.status(), 3);
        x.as(0, 6);
        check.due("37 as BAD leaves it", x.status(), 3);
        x.as(0, 0);
        check.due("37 as", x.status(), 0);
        x.who(0, 2);
        check.due("37 who PLACE", x.status(), 2);
        x.who(0, 0);
        check.due("37 who", x.status(), 0);
        x.fits(0, 5, 0, 0);
        check.due("37 fits NULL", x.status(), 1);
        x.fits(0, 0, 0, 4);
        check.due("37 fits BAD leaves it", x.status(), 1);
        x.fits(0, 0, 0, 0);
        check.due("37 fits", x.status(), 0);
        MatNations y = new MatNations();
        y.drop(0);
        y.who(0, 0);
        check.due("37 STATE leaves it", y.status(), 1);
    }
}
