import java.lang.reflect.InvocationTargetException;
import java.util.Arrays;
import java.util.Random;

/** Long runs of calls, drawn by fixed seeds, answered by the class as by the model: all promises, edges, wrong inputs. */
final class ModelTest {
    private static final int RUNS = 1500, CALLS = 512;
    private static final int[] EDGES = {Integer.MIN_VALUE, Integer.MIN_VALUE + 1, -1000000, -2, -1, 7, 8, 9, 10, 11, 29, 30,
        39, 40, 41, 59, 60, 61, 63, 64, 100, 199, 200, 201, 255, 256, 65535, 999999, 1000000, Integer.MAX_VALUE - 1,
        Integer.MAX_VALUE};
    private static final int[] ARGUMENTS = {
        3, 3, 5, 1, 1, 0, 0, 1, 1, 1, 1, 0, 2, 2, 2, 2, 2, 1, 0, 1, 1, 3, 1, 2, 2, 4, 3, 3, 1, 1, 1, 2, 2, 1, 1, 0};
    private static final String[] NAMES = {
        "row", "set", "copy", "drop", "feed", "hotel", "fault", "come", "beat", "change", "rain", "undo", "comer", "mat",
        "soil", "atOne", "leaves", "carries", "clean", "order", "laying", "beating", "pacts", "could", "who", "fits",
        "absent", "drawn", "image", "restore", "kind", "as", "ask", "trace", "count", "status"};
    private static final Check check = new Check();

    private final Random random;
    private final MatNations real = new MatNations();
    private final Model model = new Model();
    private final int run;
    private int calls;

    private ModelTest(int run) {
        this.run = run;
        this.random = new Random(run);
    }

    public static void main(String[] args) throws ReflectiveOperationException {
        for (int run = 0; run < RUNS && !check.isWrong(); run++) {
            new ModelTest(run).goOn();
        }
        check.end();
    }

    private void goOn() throws ReflectiveOperationException {
        while (calls < CALLS && !check.isWrong()) {
            int draw = random.nextInt(100);
            if (draw < 1 || calls == 0 && draw < 90) {
                readText();
            } else if (draw < 4) {
                tellOfOne();
            } else if (draw < 30) {
                act();
            } else {
                int call = random.nextInt(NAMES.length);
                call(call, arguments(call));
            }
        }
    }

    private void call(int call, int... a) throws ReflectiveOperationException {
        calls++;
        String name = "run " + run + ", call " + calls + ": " + NAMES[call] + Arrays.toString(a);
        check.due(name, asked(real, call, a), asked(model, call, a));
    }

    private void act() throws ReflectiveOperationException {
        int call = 7 + random.nextInt(5);
        call(call, arguments(call));
    }

    private void readText() throws ReflectiveOperationException {
        String text = text();
        if (random.nextInt(4) == 0) {
            text = spoilt(text);
        }
        for (int i = 0; i < text.length(); i++) {
            call(4, text.charAt(i));
        }
        call(5);
        call(6);
    }

    private int upTo(int most) {
        return random.nextInt(most + 1);
    }

    private String text() {
        StringBuilder text = new StringBuilder();
        text.append('d').append(1 + upTo(random.nextBoolean() ? 59 : 14)).append(',').append(1 + upTo(random.nextInt(9))).append(';');
        int countries = upTo(5);
        for (int mats = 1 + upTo(3 + upTo(40) / 40); mats > 0; mats--) {
            text.append('m').append(upTo(countries)).append(';');
        }
        for (int comers = upTo(6 + upTo(40) / 40); comers > 0; comers--) {
            text.append("wgtse".charAt(upTo(4))).append(upTo(30)).append(',');
            text.append(upTo(countries)).append(',').append(1 + upTo(8)).append(';');
        }
        return text.toString();
    }

    private String spoilt(String text) {
        StringBuilder spoilt = new StringBuilder(text);
        for (int times = 1 + upTo(1); times > 0; times--) {
            int at = random.nextInt(spoilt.length());
            String signs = "dmwgtsex0123456789,;,; A" + (char) 255;
            char sign = signs.charAt(random.nextInt(signs.length()));
            switch (random.nextInt(4)) {
                case 0: spoilt.setCharAt(at, sign); break;
                case 1: spoilt.insert(at, sign); break;
                case 2: spoilt.deleteCharAt(at); break;
                default: spoilt.setLength(at + 1); break;
            }
        }
        return spoilt.toString();
    }

    /** Random rows hardly tell of anybody, so a row is written by what one would leave. */
    private void tellOfOne() throws ReflectiveOperationException {
        int comer = upTo(5);
        int at = upTo(3);
        call(0, 0, upTo(2), 4 + upTo(4));
        for (int m = 0; m < 4; m++) {
            int lies = real.leaves(comer, m) + real.mat(m, 1);
            call(1, 0, at + m, lies);
        }
        call(24, 0, at);
        call(25, random.nextInt(3) == 0 ? upTo(5) : comer, 0, at, upTo(3));
        call(25, comer, 0, at, upTo(3));
    }

    private int[] arguments(int call) {
        int[] a = new int[ARGUMENTS[call]];
        for (int i = 0; i < a.length; i++) {
            a[i] = argument(call, i);
        }
        return a;
    }

    private int argument(int call, int i) {
        if (random.nextInt(25) == 0) {
            return EDGES[random.nextInt(EDGES.length)];
        }
        switch (NAMES[call]) {
            case "row": return i == 0 ? upTo(3) : i == 1 ? upTo(2) : upTo(12) - 1;
            case "set": return i == 0 ? upTo(4) : i == 1 ? upTo(12) - 1 : random.nextInt(4) == 0 ? random.nextInt() : upTo(20);
            case "copy": return i == 0 || i == 2 ? upTo(3) : upTo(6) - 1;
            case "feed": return upTo(255);
            case "rain": return 1 + upTo(4);
            case "order": return upTo(6) - 1;
            case "laying": return upTo(4) - 1;
            case "beating": return i == 0 ? upTo(random.nextBoolean() ? 7 : 63) : i == 1 ? upTo(80) : upTo(1);
            case "who": return i == 0 ? upTo(3) : upTo(4);
            case "fits": return i == 3 ? upTo(3) : i == 1 ? upTo(3) : upTo(4);
            case "absent": return i == 0 ? upTo(120) : i == 1 ? upTo(10) : upTo(1);
            case "drawn": return i == 0 ? upTo(60) : i == 1 ? 1 + upTo(999998) : upTo(1);
            case "as": return upTo(5);
            case "ask": return i == 0 ? upTo(5) : upTo(1);
            case "trace": return upTo(7);
            case "count": return upTo(7);
            case "comer": return i == 0 ? upTo(5) : upTo(3);
            case "come": case "carries": case "kind": return upTo(5);
            case "image": case "restore": case "pacts": return upTo(1);
            default: return upTo(4);
        }
    }

    private int asked(Object one, int call, int[] a) throws ReflectiveOperationException {
        Class<?>[] types = new Class<?>[a.length];
        Object[] values = new Object[a.length];
        for (int i = 0; i < a.length; i++) {
            types[i] = int.class;
            values[i] = a[i];
        }
        try {
            return (Integer) one.getClass().getDeclaredMethod(NAMES[call], types).invoke(one, values);
        } catch (InvocationTargetException told) {
            if (told.getCause() instanceof Model.Refused refused) {
                return refused.answer;
            }
            throw told;
        }
    }
}
