import java.math.BigInteger;
import java.util.ArrayDeque;
import java.util.ArrayList;
import java.util.Arrays;
import java.util.Deque;
import java.util.List;
import java.util.TreeMap;
import java.util.regex.Matcher;
import java.util.regex.Pattern;

/**
 * The document once more, written as plainly as the Java library allows, without regard to what the class may use:
 * refusals are exceptions, KINDS are classes, and all that is foretold is done to copies of the hotel.
 */
final class Model {
    static final class Refused extends RuntimeException {
        private static final long serialVersionUID = 1;
        final int answer;

        Refused(int answer) {
            super(null, null, false, false);
            this.answer = answer;
        }
    }

    private static final class Row {
        final int lane;
        final int[] items;

        Row(int lane, int n) {
            this.lane = lane;
            this.items = new int[n];
        }
    }

    static final class Mat {
        int country;
        int[] of = new int[6];

        int all() {
            return Arrays.stream(of).sum();
        }
    }

    static class Comer {
        int number, soil, from, manners, came;
        List<Integer> trace;

        int leaves(int place, Mat mat, int has) {
            return 0;
        }

        int size() {
            trace.add(10);
            return soil;
        }

        int mark() {
            trace.add(20);
            return number;
        }
    }

    static class Wiper extends Comer {
        @Override int leaves(int place, Mat mat, int has) {
            return manners;
        }

        @Override int size() {
            trace.add(11);
            int given = super.size();
            return given + mark();
        }

        @Override int mark() {
            trace.add(21);
            return super.mark() + came;
        }
    }

    static final class Guest extends Wiper {
        @Override int leaves(int place, Mat mat, int has) {
            return mat.country == from ? manners + manners : manners;
        }

        @Override int size() {
            trace.add(12);
            return 0 - super.size();
        }

        @Override int mark() {
            trace.add(24);
            return super.mark() * 2;
        }
    }

    static final class Thief extends Wiper {
        @Override int leaves(int place, Mat mat, int has) {
            return place == 0 ? 0 : super.leaves(place, mat, has);
        }

        @Override int mark() {
            trace.add(22);
            return super.mark() - 1000;
        }
    }

    static class Stamper extends Comer {
        @Override int leaves(int place, Mat mat, int has) {
            return place > 0 ? 0 : has / 2;
        }

        @Override int size() {
            trace.add(13);
            return super.size() - 100;
        }

        @Override int mark() {
            trace.add(23);
            int given = super.mark();
            return given - size();
        }
    }

    static final class Envoy extends Stamper {
        @Override int leaves(int place, Mat mat, int has) {
            return has / 2;
        }

        @Override int size() {
            trace.add(14);
            return super.size() * 2;
        }
    }

    private static final Class<?>[] KINDS = {Comer.class, Wiper.class, Guest.class, Thief.class, Stamper.class, Envoy.class};

    private static Comer ofKind(int kind) {
        switch (kind) {
            case 1: return new Wiper();
            case 2: return new Guest();
            case 3: return new Thief();
            case 4: return new Stamper();
            default: return new Envoy();
        }
    }

    private static int kindOf(Comer one) {
        return Arrays.asList(KINDS).indexOf(one.getClass());
    }

    private static Comer twin(Comer one, int kind) {
        Comer twin = ofKind(kind);
        twin.number = one.number;
        twin.soil = one.soil;
        twin.from = one.from;
        twin.manners = one.manners;
        twin.came = one.came;
        twin.trace = one.trace;
        return twin;
    }

    static final class Hotel {
        int limit, bond;
        final List<Mat> mats = new ArrayList<>();
        final List<Comer> comers = new ArrayList<>();

        Hotel copy() {
            Hotel copy = new Hotel();
            copy.limit = limit;
            copy.bond = bond;
            for (Mat mat : mats) {
                Mat twin = new Mat();
                twin.country = mat.country;
                twin.of = mat.of.clone();
                copy.mats.add(twin);
            }
            for (Comer one : comers) {
                copy.comers.add(twin(one, kindOf(one)));
            }
            return copy;
        }

        int comes(Comer one) {
            int has = one.soil;
            for (int place = 0; place < mats.size(); place++) {
                Mat mat = mats.get(place);
                int left = one.leaves(place, mat, has);
                left = Math.min(left, has);
                left = Math.min(left, limit - mat.all());
                mat.of[one.from] += left;
                has -= left;
            }
            one.came++;
            return has;
        }

        int allCome(int bits) {
            int carried = 0;
            for (Comer one : comers) {
                if ((bits & 1 << one.number) != 0) {
                    carried += comes(one);
                }
            }
            return carried;
        }

        boolean atOne(int a, int b) {
            Mat one = mats.get(a);
            Mat other = mats.get(b);
            return a != b && one.of[other.country] >= bond && other.of[one.country] >= bond;
        }

        int lies() {
            return mats.stream().mapToInt(Mat::all).sum();
        }
    }

    private final TreeMap<Integer, Row> rows = new TreeMap<>();
    private final StringBuilder tape = new StringBuilder();
    private Hotel hotel;
    private final Deque<Hotel> acts = new ArrayDeque<>();
    private final Hotel[] images = new Hotel[2];
    private final List<Integer> trace = new ArrayList<>();
    private int fault;
    private int status;

    private static void bad(boolean so) {
        if (so) {
            throw new Refused(MatNations.BAD);
        }
    }

    private static void state(boolean so) {
        if (so) {
            throw new Refused(MatNations.STATE);
        }
    }

    private void finding(boolean so, int number) {
        if (so) {
            status = number;
            throw new Refused(-1000010 - number);
        }
    }

    private int fine(int answer) {
        status = 0;
        return answer;
    }

    private static boolean within(int v, int least, int most) {
        return least <= v && v <= most;
    }

    private Comer theComer(int comer) {
        bad(hotel == null || !within(comer, 0, hotel.comers.size() - 1));
        return hotel.comers.get(comer);
    }

    private Mat theMat(int mat) {
        bad(hotel == null || !within(mat, 0, hotel.mats.size() - 1));
        return hotel.mats.get(mat);
    }

    int row(int row, int lane, int n) {
        bad(!within(row, 0, 7) || !within(lane, 0, 2) || n > 40);
        finding(n < 0, 4);
        rows.put(row, new Row(lane, n));
        return fine(n);
    }

    int set(int row, int i, int v) {
        bad(!within(row, 0, 7));
        finding(!rows.containsKey(row), 1);
        Row it = rows.get(row);
        finding(!within(i, 0, it.items.length - 1), 2);
        it.items[i] = it.lane == 0 ? (byte) v : it.lane == 1 ? (short) v : v;
        return fine(it.items[i]);
    }

    int copy(int a, int i, int b, int j, int n) {
        bad(!within(a, 0, 7) || !within(b, 0, 7));
        finding(!rows.containsKey(a) || !rows.containsKey(b), 1);
        Row from = rows.get(a);
        Row to = rows.get(b);
        finding(from.lane != to.lane, 5);
        finding(i < 0 || j < 0 || n < 0 || (long) i + n > from.items.length || (long) j + n > to.items.length, 2);
        int[] ahead = from.items.clone();
        for (int k = 0; k < n; k++) {
            to.items[j + k] = ahead[i + k];
        }
        return fine(n);
    }

    int drop(int row) {
        bad(!within(row, 0, 7));
        finding(!rows.containsKey(row), 1);
        return fine(rows.remove(row).items.length);
    }

    int feed(int letter) {
        bad(!within(letter, 0, 255));
        if (tape.length() == 100) {
            throw new Refused(MatNations.FULL);
        }
        tape.append((char) letter);
        return tape.length();
    }

    /** What may stand at a step of the text: letters, a sign, or a number and its bounds. */
    private static final class Due {
        final String marks;
        final int least, most;

        Due(String marks, int least, int most) {
            this.marks = marks;
            this.least = least;
            this.most = most;
        }
    }

    private static Due number(int least, int most) {
        return new Due(null, least, most);
    }

    private static Due mark(String marks) {
        return new Due(marks, 0, 0);
    }

    private static final Due[] LAW = {mark("d"), number(1, 60), mark(","), number(1, 9), mark(";")};
    private static final Due[] MAT = {mark("m"), number(0, 5), mark(";")};
    private static final Due[] COMER = {mark("wgtse"), number(0, 30), mark(","), number(0, 5), mark(","), number(1, 9), mark(";")};

    private static final class Fault extends RuntimeException {
        private static final long serialVersionUID = 1;
        final int place, number;

        Fault(int place, int number) {
            super(null, null, false, false);
            this.place = place;
            this.number = number;
        }
    }

    /** Takes one sentence off the text from a place on: the numbers in it, and where it ends. */
    private static int[] sentence(String text, int start, Due[] dues) {
        int at = start;
        int[] got = new int[dues.length];
        for (int i = 0; i < dues.length; i++) {
            Due due = dues[i];
            String rest = text.substring(at);
            if (due.marks != null) {
                if (rest.isEmpty() || due.marks.indexOf(rest.charAt(0)) < 0) {
                    throw new Fault(at, 1);
                }
                got[i] = due.marks.indexOf(rest.charAt(0));
                at++;
            } else {
                Matcher figures = Pattern.compile("^([0-9]{1,2})(?![0-9])").matcher(rest);
                if (!figures.find()) {
                    throw new Fault(at, 1);
                }
                got[i] = Integer.parseInt(figures.group(1));
                if (!within(got[i], due.least, due.most)) {
                    throw new Fault(at, 2);
                }
                at += figures.group(1).length();
            }
        }
        int[] all = Arrays.copyOf(got, dues.length + 1);
        all[dues.length] = at;
        return all;
    }

    private Hotel reads(String text) {
        Hotel read = new Hotel();
        int[] got = sentence(text, 0, LAW);
        read.limit = got[1];
        read.bond = got[3];
        int at = got[5];
        while (read.mats.isEmpty() || at < text.length() && text.charAt(at) == 'm') {
            if (read.mats.size() == 4) {
                throw new Fault(at, 3);
            }
            got = sentence(text, at, MAT);
            Mat mat = new Mat();
            mat.country = got[1];
            read.mats.add(mat);
            at = got[3];
        }
        while (at < text.length()) {
            if (read.comers.size() == 6 && "wgtse".indexOf(text.charAt(at)) >= 0) {
                throw new Fault(at, 3);
            }
            got = sentence(text, at, COMER);
            Comer one = ofKind(got[0] + 1);
            one.trace = trace;
            one.number = read.comers.size();
            one.soil = got[1];
            one.from = got[3];
            one.manners = got[5];
            read.comers.add(one);
            at = got[7];
        }
        return read;
    }

    int hotel() {
        String text = tape.toString();
        tape.setLength(0);
        try {
            hotel = reads(text);
        } catch (Fault found) {
            fault = found.number;
            return -1000100 - found.place;
        }
        acts.clear();
        return hotel.comers.size();
    }

    int fault() {
        return fault;
    }

    private void act() {
        acts.addLast(hotel.copy());
        if (acts.size() > 24) {
            acts.removeFirst();
        }
    }

    int come(int comer) {
        theComer(comer);
        act();
        return hotel.comes(hotel.comers.get(comer));
    }

    int beat(int mat) {
        int lay = theMat(mat).all();
        act();
        theMat(mat).of = new int[6];
        return lay;
    }

    int change(int mat) {
        theMat(mat);
        bad(mat == hotel.mats.size() - 1);
        act();
        hotel.mats.add(mat + 1, hotel.mats.remove(mat));
        return theMat(mat).country;
    }

    int rain(int v) {
        state(hotel == null);
        bad(!within(v, 1, 20));
        act();
        for (Comer one : hotel.comers) {
            one.soil = one.soil + v > 60 ? 60 : one.soil + v;
        }
        return hotel.comers.stream().mapToInt(one -> one.soil).sum();
    }

    int undo() {
        state(acts.isEmpty());
        hotel = acts.removeLast();
        return acts.size();
    }

    int comer(int comer, int what) {
        Comer one = theComer(comer);
        bad(!within(what, 0, 3));
        return new int[] {one.soil, one.from, one.manners, one.came}[what];
    }

    int mat(int mat, int what) {
        Mat one = theMat(mat);
        bad(!within(what, 0, 3));
        int master = MatNations.NONE;
        int most = 0;
        for (int c = 5; c >= 0; c--) {
            if (one.of[c] > 0 && one.of[c] >= most) {
                most = one.of[c];
                master = c;
            }
        }
        return new int[] {one.country, one.all(), hotel.limit - one.all(), master}[what];
    }

    int soil(int mat, int country) {
        Mat one = theMat(mat);
        bad(!within(country, 0, 5));
        return one.of[country];
    }

    int atOne(int mat, int other) {
        theMat(mat);
        theMat(other);
        return hotel.atOne(mat, other) ? 1 : 0;
    }

    int leaves(int comer, int mat) {
        theComer(comer);
        int before = theMat(mat).all();
        Hotel then = hotel.copy();
        then.comes(then.comers.get(comer));
        return then.mats.get(mat).all() - before;
    }

    int carries(int comer) {
        theComer(comer);
        Hotel then = hotel.copy();
        return then.comes(then.comers.get(comer));
    }

    int clean() {
        state(hotel == null);
        int bits = 0;
        for (int c = 0; c < hotel.comers.size(); c++) {
            bits += carries(c) == 0 ? 1 << c : 0;
        }
        return bits;
    }

    private static List<List<Integer>> permutations(int n) {
        List<List<Integer>> all = new ArrayList<>();
        if (n == 0) {
            all.add(new ArrayList<>());
            return all;
        }
        for (int first = 0; first < n; first++) {
            for (List<Integer> rest : permutations(n - 1)) {
                List<Integer> one = new ArrayList<>();
                one.add(first);
                for (int other : rest) {
                    one.add(other < first ? other : other + 1);
                }
                all.add(one);
            }
        }
        return all;
    }

    int order(int k) {
        state(hotel == null);
        bad(!within(k, -1, 5));
        int least = -1;
        List<Integer> best = null;
        for (List<Integer> row : permutations(hotel.comers.size())) {
            Hotel then = hotel.copy();
            int carried = 0;
            for (int c : row) {
                carried += then.comes(then.comers.get(c));
            }
            if (best == null || carried < least) {
                best = row;
                least = carried;
            }
        }
        return k < 0 ? least : k < best.size() ? best.get(k) : MatNations.NONE;
    }

    int laying(int k) {
        state(hotel == null);
        bad(!within(k, -1, 3));
        int least = -1;
        List<Integer> best = null;
        for (List<Integer> row : permutations(hotel.mats.size())) {
            Hotel then = hotel.copy();
            List<Mat> mats = new ArrayList<>(then.mats);
            for (int i = 0; i < mats.size(); i++) {
                then.mats.set(i, mats.get(row.get(i)));
            }
            int carried = then.allCome(63);
            if (best == null || carried < least) {
                best = row;
                least = carried;
            }
        }
        return k < 0 ? least : k < best.size() ? best.get(k) : MatNations.NONE;
    }

    int beating(int comers, int q, int what) {
        state(hotel == null);
        bad(comers < 0 || comers >> hotel.comers.size() != 0 || !within(q, 0, 200) || !within(what, 0, 1));
        for (int many = 0; many <= hotel.mats.size(); many++) {
            for (int bits = 0; bits < 1 << hotel.mats.size(); bits++) {
                if (Integer.bitCount(bits) == many) {
                    Hotel then = hotel.copy();
                    for (int m = 0; m < then.mats.size(); m++) {
                        if ((bits & 1 << m) != 0) {
                            then.mats.get(m).of = new int[6];
                        }
                    }
                    if (then.allCome(comers) <= q) {
                        return what == 0 ? many : bits;
                    }
                }
            }
        }
        return MatNations.NONE;
    }

    int pacts(int what) {
        state(hotel == null);
        bad(!within(what, 0, 1));
        List<Integer> pairs = new ArrayList<>();
        for (int a = 0; a < hotel.mats.size(); a++) {
            for (int b = a + 1; b < hotel.mats.size(); b++) {
                if (hotel.atOne(a, b)) {
                    pairs.add(10 * a + b);
                }
            }
        }
        return what == 0 ? pairs.size() : pairs.isEmpty() ? MatNations.NONE : pairs.get(0);
    }

    int could(int mat, int other) {
        theMat(mat);
        theMat(other);
        bad(mat == other);
        int bits = 0;
        for (int c = 0; c < hotel.comers.size(); c++) {
            Hotel then = hotel.copy();
            then.comes(then.comers.get(c));
            bits += then.atOne(mat, other) ? 1 << c : 0;
        }
        return bits;
    }

    private int[] told(int row, int i) {
        finding(!rows.containsKey(row), 1);
        int[] items = rows.get(row).items;
        finding(i < 0 || (long) i + hotel.mats.size() > items.length, 2);
        return Arrays.copyOfRange(items, i, i + hotel.mats.size());
    }

    private boolean isSo(Comer one, int[] told) {
        Hotel then = hotel.copy();
        then.comes(one);
        return Arrays.equals(told, then.mats.stream().mapToInt(Mat::all).toArray());
    }

    int who(int row, int i) {
        state(hotel == null);
        bad(!within(row, 0, 7));
        int[] told = told(row, i);
        int bits = 0;
        for (Comer one : hotel.comers) {
            bits += isSo(twin(one, kindOf(one)), told) ? 1 << one.number : 0;
        }
        return fine(bits);
    }

    int fits(int comer, int row, int i, int what) {
        Comer one = theComer(comer);
        bad(!within(row, 0, 7) || !within(what, 0, 3));
        int[] told = told(row, i);
        int bits = 0;
        for (int v = 0; v < 30; v++) {
            if (what == 0 && !within(v, 1, 5) || what == 2 && !within(v, 1, 9) || what == 3 && !within(v, 0, 5)) {
                continue;
            }
            Comer other = twin(one, what == 0 ? v : kindOf(one));
            other.soil = what == 1 ? v : one.soil;
            other.manners = what == 2 ? v : one.manners;
            other.from = what == 3 ? v : one.from;
            bits += isSo(other, told) ? 1 << v : 0;
        }
        return fine(bits);
    }

    int absent(int q, int c, int what) {
        state(hotel == null);
        bad(!within(q, 0, 200) || !within(c, 0, 10) || !within(what, 0, 1));
        int n = hotel.comers.size();
        BigInteger above = BigInteger.ZERO;
        BigInteger below = BigInteger.TEN.pow(n);
        for (int bits = 0; bits < 1 << n; bits++) {
            if (hotel.copy().allCome(bits) <= q) {
                int come = Integer.bitCount(bits);
                above = above.add(BigInteger.valueOf(10 - c).pow(come).multiply(BigInteger.valueOf(c).pow(n - come)));
            }
        }
        BigInteger shared = above.gcd(below);
        return (what == 0 ? above : below).divide(shared).intValueExact();
    }

    int drawn(int n, int seed, int what) {
        state(hotel == null);
        bad(!within(n, 0, 60) || !within(seed, 1, 999999) || !within(what, 0, 1));
        Hotel then = hotel.copy();
        BigInteger x = BigInteger.valueOf(seed);
        int carried = 0;
        for (int i = 0; i < n; i++) {
            x = x.multiply(BigInteger.valueOf(16807)).mod(BigInteger.valueOf(2147483647));
            int now = x.intValueExact();
            if (now % 7 == 0) {
                then.mats.get(now % then.mats.size()).of = new int[6];
            }
            if (!then.comers.isEmpty()) {
                carried += then.comes(then.comers.get(now % then.comers.size()));
            }
        }
        return what == 0 ? carried : then.lies();
    }

    int image(int k) {
        bad(!within(k, 0, 1));
        state(hotel == null);
        images[k] = hotel.copy();
        return 1;
    }

    int restore(int k) {
        bad(!within(k, 0, 1));
        state(images[k] == null);
        hotel = images[k].copy();
        acts.clear();
        return 1;
    }

    int kind(int comer) {
        return kindOf(theComer(comer));
    }

    int as(int comer, int kind) {
        Comer one = theComer(comer);
        bad(!within(kind, 0, 5));
        finding(!KINDS[kind].isInstance(one), 3);
        return fine(one.number);
    }

    int ask(int comer, int what) {
        Comer one = theComer(comer);
        bad(!within(what, 0, 1));
        trace.clear();
        return what == 0 ? one.size() : one.mark();
    }

    int trace(int i) {
        return within(i, 0, Math.min(16, trace.size()) - 1) ? trace.get(i) : MatNations.NONE;
    }

    int count(int what) {
        bad(!within(what, 0, 7));
        if (what == 0) {
            return rows.size();
        }
        if (what == 6 || what == 7) {
            return what == 6 ? acts.size() : tape.length();
        }
        Hotel now = hotel == null ? new Hotel() : hotel;
        int came = now.comers.stream().mapToInt(one -> one.came).sum();
        return new int[] {0, now.mats.size(), now.comers.size(), now.limit, now.lies(), came}[what];
    }

    int status() {
        return status;
    }
}
