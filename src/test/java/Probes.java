import java.util.ArrayList;
import java.util.List;

/** Calls, as lines of a Script, by which all that can be seen of an object is seen; no list is longer than 512 allow. */
final class Probes {
    private Probes() {
    }

    /** What can be seen without changing anything. */
    static List<String> view() {
        List<String> lines = new ArrayList<>();
        lines.add("fault");
        add(lines, "count ", 8, "");
        add(lines, "trace ", 17, "");
        for (int comer = 0; comer < 6; comer++) {
            add(lines, "comer " + comer + " ", 4, "");
            lines.add("kind " + comer);
            add(lines, "leaves " + comer + " ", 4, "");
        }
        for (int mat = 0; mat < 4; mat++) {
            add(lines, "mat " + mat + " ", 4, "");
            add(lines, "soil " + mat + " ", 6, "");
            add(lines, "atOne " + mat + " ", 4, "");
        }
        lines.add("clean");
        lines.add("order -1");
        lines.add("laying -1");
        lines.add("drawn 60 1 0");
        return lines;
    }

    static List<String> undoing() {
        List<String> lines = new ArrayList<>();
        for (int act = 0; act < 25; act++) {
            lines.addAll(List.of("undo", "count 4", "count 5", "mat 0 0", "mat 1 0", "mat 0 1", "comer 0 0"));
        }
        return lines;
    }

    static List<String> images() {
        List<String> lines = new ArrayList<>();
        for (int k = 0; k < 2; k++) {
            lines.add("restore " + k);
            lines.addAll(hotelInShort());
        }
        return lines;
    }

    /** ITEMS of 0 to 18 are told apart by the SOIL of a guest who leaves as much; fits() tells SOILS by bits. */
    static List<String> items() {
        List<String> lines = new ArrayList<>();
        lines.add("hotel");
        lines.add("read d60,1;m0;g30,0,9;");
        for (int row = 0; row < 8; row++) {
            add(lines, "fits 0 " + row + " ", 40, " 1");
        }
        return lines;
    }

    /** Of 70000 each LANE keeps another number. */
    static List<String> lanesAndSizes() {
        List<String> lines = new ArrayList<>();
        add(lines, "set ", 8, " 0 70000");
        add(lines, "drop ", 8, "");
        return lines;
    }

    static List<String> tape() {
        List<String> lines = new ArrayList<>();
        lines.add("feed 59");
        lines.add("hotel");
        lines.add("fault");
        lines.addAll(hotelInShort());
        return lines;
    }

    private static List<String> hotelInShort() {
        List<String> lines = new ArrayList<>();
        add(lines, "count ", 7, "");
        add(lines, "mat ", 4, " 0");
        add(lines, "mat ", 4, " 1");
        add(lines, "comer ", 2, " 0");
        return lines;
    }

    private static void add(List<String> lines, String start, int numbers, String end) {
        for (int number = 0; number < numbers; number++) {
            lines.add(start + number + end);
        }
    }
}
