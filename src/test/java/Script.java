import java.lang.reflect.InvocationTargetException;
import java.lang.reflect.Method;
import java.util.ArrayList;
import java.util.HashMap;
import java.util.List;
import java.util.Map;
import java.util.Set;

/**
 * Runs of calls on new objects, told in lines: "row 0 2 40 = 40". "type d9,1;" feeds a text byte by byte, "read d9,1;m0; = 0"
 * calls hotel() behind it, "25 times come 0" is 25 calls. Answers may be told by name (BAD, PLACE), a FAULT by its place (FAULT17).
 *
 * Behind every call that only asks, that is refused, that has a FINDING or a FAULT, a run looks by itself whether what the
 * document lets change is all that changed: it makes the object twice, once without that call, and sees all of both.
 */
final class Script {
    private static final int MOST_CALLS = 512, MOST_BYTES = 100, FAULTS = -1000100, FINDINGS = -1000010;
    private static final List<List<Call>> PROBES = List.of(
        calls(Probes.view()), calls(Probes.undoing()), calls(Probes.images()), calls(Probes.items()),
        calls(Probes.lanesAndSizes()), calls(Probes.tape()));

    private static final Map<String, Method> METHODS = methods();

    private static final Set<String> ASKING = Set.of(
        "fault", "comer", "mat", "soil", "atOne", "leaves", "carries", "clean", "order", "laying", "beating", "pacts", "could",
        "who", "fits", "absent", "drawn", "kind", "as", "trace", "count", "status");
    private static final Set<String> WITH_STATUS = Set.of("row", "set", "copy", "drop", "who", "fits", "as");

    private final Check check;

    Script(Check check) {
        this.check = check;
    }

    /** One call; due is told only where a line tells an answer. */
    private record Call(String name, int[] arguments, boolean isTold, int due) {
        int on(MatNations x) {
            Object[] values = new Object[arguments.length];
            for (int i = 0; i < values.length; i++) {
                values[i] = arguments[i];
            }
            try {
                return (Integer) METHODS.get(name).invoke(x, values);
            } catch (IllegalAccessException | InvocationTargetException thrown) {
                throw new IllegalStateException(this + " threw", thrown);
            }
        }

        @Override
        public String toString() {
            StringBuilder text = new StringBuilder(name).append('(');
            for (int i = 0; i < arguments.length; i++) {
                text.append(i == 0 ? "" : ", ").append(arguments[i]);
            }
            return text.append(')').toString();
        }
    }

    void run(String sentence, String... lines) {
        List<Call> calls = calls(List.of(lines));
        check.holds(sentence + ": " + calls.size() + " calls are no more than an object is used for", calls.size() <= MOST_CALLS);
        MatNations x = new MatNations();
        for (int i = 0; i < calls.size(); i++) {
            Call call = calls.get(i);
            int got = call.on(x);
            String told = sentence + ", call " + (i + 1) + ": " + call;
            if (call.isTold) {
                check.due(told, got, call.due);
            }
            if (isRefused(got) || ASKING.contains(call.name)) {
                changedNothing(told, calls.subList(0, i), call, got);
            }
        }
    }

    private static Map<String, Method> methods() {
        Map<String, Method> methods = new HashMap<>();
        for (Method method : MatNations.class.getDeclaredMethods()) {
            methods.put(method.getName(), method);
        }
        return methods;
    }

    /** A number that set() answers may lie below all of these. */
    private static boolean isRefused(int answer) {
        return answer < Check.NONE && answer >= FAULTS - MOST_BYTES;
    }

    private void changedNothing(String told, List<Call> before, Call call, int answer) {
        boolean isFault = answer <= FAULTS;
        List<Call> without = isFault ? withoutTape(before) : before;
        for (List<Call> probe : PROBES) {
            MatNations spared = after(without);
            MatNations tried = after(before);
            call.on(tried);
            check.due(told + ", then status()", tried.status(), statusBehind(call, answer, spared.status()));
            int room = Math.min(probe.size(), MOST_CALLS - 2 - before.size());
            for (int i = 0; i < room; i++) {
                Call asked = probe.get(i);
                int want = asked.on(spared);
                int got = asked.on(tried);
                boolean mayDiffer = isFault && asked.name.equals("fault");
                check.due(told + ", then " + asked, got, mayDiffer ? got : want);
            }
        }
    }

    private static int statusBehind(Call call, int answer, int before) {
        if (!WITH_STATUS.contains(call.name)) {
            return before;
        }
        boolean isFound = answer < FINDINGS;
        return isFound ? FINDINGS - answer : isRefused(answer) ? before : 0;
    }

    /** A FAULT empties the tape, so the object that is spared the reading must not have been fed what was read. */
    private static List<Call> withoutTape(List<Call> before) {
        int tape = before.size();
        for (int i = before.size() - 1; i >= 0 && !before.get(i).name.equals("hotel"); i--) {
            tape = i;
        }
        List<Call> without = new ArrayList<>(before.subList(0, tape));
        for (Call call : before.subList(tape, before.size())) {
            if (!call.name.equals("feed")) {
                without.add(call);
            }
        }
        return without;
    }

    private static MatNations after(List<Call> calls) {
        MatNations x = new MatNations();
        for (Call call : calls) {
            call.on(x);
        }
        return x;
    }

    private static List<Call> calls(List<String> lines) {
        List<Call> calls = new ArrayList<>();
        for (String line : lines) {
            int end = line.indexOf(" = ");
            String[] words = (end < 0 ? line : line.substring(0, end)).split(" ");
            boolean isTold = end >= 0;
            int due = isTold ? number(line.substring(end + 3)) : 0;
            switch (words.length > 1 && words[1].equals("times") ? "times" : words[0]) {
                case "times": addTimes(calls, words, isTold, due); break;
                case "type": addFeeds(calls, words[1]); break;
                case "read":
                    addFeeds(calls, words[1]);
                    calls.add(new Call("hotel", new int[0], isTold, due));
                    break;
                default: calls.add(call(words, 0, isTold, due)); break;
            }
        }
        return calls;
    }

    private static void addTimes(List<Call> calls, String[] words, boolean isTold, int due) {
        for (int i = 0; i < Integer.parseInt(words[0]); i++) {
            calls.add(call(words, 2, isTold, due));
        }
    }

    private static void addFeeds(List<Call> calls, String text) {
        for (int i = 0; i < text.length(); i++) {
            calls.add(new Call("feed", new int[] {text.charAt(i)}, false, 0));
        }
    }

    private static Call call(String[] words, int at, boolean isTold, int due) {
        int[] arguments = new int[words.length - at - 1];
        for (int i = 0; i < arguments.length; i++) {
            arguments[i] = number(words[at + 1 + i]);
        }
        return new Call(words[at], arguments, isTold, due);
    }

    static int number(String word) {
        switch (word) {
            case "NONE": return Check.NONE;
            case "BAD": return Check.BAD;
            case "STATE": return Check.STATE;
            case "FULL": return Check.FULL;
            case "NULL": return Check.NULL;
            case "PLACE": return Check.PLACE;
            case "KIND": return Check.KIND;
            case "SIZE": return Check.SIZE;
            case "STORE": return Check.STORE;
            case "LEAST": return Integer.MIN_VALUE;
            case "MOST": return Integer.MAX_VALUE;
            default: return word.startsWith("FAULT") ? FAULTS - Integer.parseInt(word.substring(5)) : Integer.parseInt(word);
        }
    }
}
