import java.lang.reflect.Field;
import java.lang.reflect.Method;

/** The bounds of the document that no run of 512 calls reaches: these tests hold the class to more than it must. */
final class BeyondTest {
    private static final Check check = new Check();

    public static void main(String[] args) throws ReflectiveOperationException {
        comes999Times();
        comesAfterAllTheSame();
        tracesTheFirst16();
        check.end();
    }

    /** "9: FULL: he CAME 999 times." */
    private static void comes999Times() {
        MatNations x = Check.hotel("d60,1;m0;w0,1,4;");
        for (int i = 0; i < 999; i++) {
            check.due("9 not full", x.come(0), 0);
        }
        check.due("9 999 times", x.comer(0, 3), 999);
        check.due("9 acts", x.count(6), 24);
        check.due("9 full", x.come(0), Check.FULL);
        check.due("9 BAD, not FULL", x.come(1), Check.BAD);
        check.due("9 full leaves it", x.comer(0, 3), 999);
        check.due("9 full is no act", x.undo(), 23);
        check.due("9 undone is the 999th", x.comer(0, 3), 998);
        check.due("9 room again", x.come(0), 0);
        check.due("9 full again", x.come(0), Check.FULL);
    }

    /** One who CAME 999 times keeps nobody else away, and what is FORETOLD asks only what would be, did he COME. */
    private static void comesAfterAllTheSame() {
        MatNations x = Check.hotel("d60,1;m0;m0;w3,1,1;w1,0,1;");
        for (int i = 0; i < 999; i++) {
            x.come(1);
        }
        x.beat(0);
        check.due("9 full", x.come(1), Check.FULL);
        check.due("9 the other", x.come(0), 2);
        check.due("9 comings of all", x.count(5), 1000);
        check.due("18 he would leave", x.leaves(1, 0), 1);
        check.due("34 MARK", x.ask(1, 1), 1000);
    }

    /** "THE TRACE (the first 16)": no ASK begins more than 6 BODIES, so numbers are left there from within. */
    private static void tracesTheFirst16() throws ReflectiveOperationException {
        MatNations x = Check.hotel("d60,1;m0;w0,1,4;");
        Field held = MatNations.class.getDeclaredField("asks");
        held.setAccessible(true);
        Object asks = held.get(x);
        Method leave = asks.getClass().getDeclaredMethod("leaveTrace", int.class);
        leave.setAccessible(true);
        for (int i = 0; i < 20; i++) {
            leave.invoke(asks, 100 + i);
        }
        check.due("35 the first", x.trace(0), 100);
        check.due("35 the 16th", x.trace(15), 115);
        check.due("35 no 17th", x.trace(16), Check.NONE);
        x.ask(0, 1);
        check.due("35 empty ahead of an ask", x.trace(0), 21);
        check.due("35 and then as long as it is", x.trace(2), Check.NONE);
    }
}
