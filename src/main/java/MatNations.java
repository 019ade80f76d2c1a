/**
 * A hotel republic whose foreign relations are what is wiped off on its doormats.
 * The numbered promises that the calls keep stand in the project's document.
 */
public final class MatNations {
    public static final int NONE = -1000000, BAD = -1000001, STATE = -1000002, FULL = -1000003;

    private static final int FINDINGS = -1000010, FAULTS = -1000100;
    private static final int NULL = 1, PLACE = 2, KIND = 3, SIZE = 4, STORE = 5;
    private static final int MATS = 4, COMERS = 6, COUNTRIES = 6, IMAGES = 2;
    private static final int MOST_COMINGS = 999, MOST_SOIL = 60, MOST_CARRIED = 200;
    private static final int WIPER = 1, GUEST = 2, THIEF = 3, STAMPER = 4, ENVOY = 5, KINDS = 6;

    private final Rows rows = new Rows();
    private final Reader reader = new Reader();
    private final House house = new House();
    private final House draft = new House();
    private final House[] images = new House[IMAGES];
    private final boolean[] kept = new boolean[IMAGES];
    private final History history = new History();
    private final Walk walk = new Walk();
    private final Foretold foretold = new Foretold();
    private final Asks asks = new Asks();
    private int latestFault;
    private int latestFinding;

    public MatNations() {
        for (int k = 0; k < IMAGES; k++) {
            images[k] = new House();
        }
    }

    // ---- rows

    public int row(int row, int lane, int n) {
        if (noRow(row) || lane < 0 || lane >= Rows.LANES || n > Rows.ITEMS) {
            return BAD;
        }
        if (n < 0) {
            return found(SIZE);
        }
        rows.make(row, lane, n);
        return unfound(n);
    }

    public int set(int row, int i, int v) {
        if (noRow(row)) {
            return BAD;
        }
        if (rows.isMissing(row)) {
            return found(NULL);
        }
        if (!rows.reaches(row, i, 1)) {
            return found(PLACE);
        }
        return unfound(rows.put(row, i, v));
    }

    public int copy(int a, int i, int b, int j, int n) {
        if (noRow(a) || noRow(b)) {
            return BAD;
        }
        if (rows.isMissing(a) || rows.isMissing(b)) {
            return found(NULL);
        }
        if (!rows.sameLane(a, b)) {
            return found(STORE);
        }
        if (!rows.reaches(a, i, n) || !rows.reaches(b, j, n)) {
            return found(PLACE);
        }
        rows.carryOver(a, i, b, j, n);
        return unfound(n);
    }

    public int drop(int row) {
        if (noRow(row)) {
            return BAD;
        }
        if (rows.isMissing(row)) {
            return found(NULL);
        }
        return unfound(rows.remove(row));
    }

    // ---- hotels, acts

    public int feed(int letter) {
        if (letter < 0 || letter > 255) {
            return BAD;
        }
        if (reader.isFull()) {
            return FULL;
        }
        return reader.append(letter);
    }

    public int hotel() {
        int wrong = reader.readInto(draft);
        if (wrong != 0) {
            latestFault = wrong;
            return FAULTS - reader.place();
        }
        house.takeOver(draft);
        history.forget();
        return house.comerCount;
    }

    public int fault() {
        return latestFault;
    }

    public int come(int comer) {
        if (noComer(comer)) {
            return BAD;
        }
        if (house.comers[comer].came >= MOST_COMINGS) {
            return FULL;
        }
        history.keep(house);
        return house.receive(house.comers[comer], walk);
    }

    public int beat(int mat) {
        if (noMat(mat)) {
            return BAD;
        }
        history.keep(house);
        int lay = house.mats[mat].lying();
        house.mats[mat].empty();
        return lay;
    }

    public int change(int mat) {
        if (noMat(mat) || noMat(mat + 1)) {
            return BAD;
        }
        history.keep(house);
        house.swapWithNext(mat);
        return house.mats[mat].country;
    }

    public int rain(int v) {
        if (noHotel()) {
            return STATE;
        }
        if (v < 1 || v > 20) {
            return BAD;
        }
        history.keep(house);
        return house.rainOnAll(v);
    }

    public int undo() {
        if (history.isEmpty()) {
            return STATE;
        }
        return history.takeBack(house);
    }

    public int comer(int comer, int what) {
        if (noComer(comer)) {
            return BAD;
        }
        Comer one = house.comers[comer];
        switch (what) {
            case 0: return one.soil;
            case 1: return one.from;
            case 2: return one.manners;
            case 3: return one.came;
            default: return BAD;
        }
    }

    public int mat(int mat, int what) {
        if (noMat(mat)) {
            return BAD;
        }
        Mat one = house.mats[mat];
        switch (what) {
            case 0: return one.country;
            case 1: return one.lying();
            case 2: return house.limit - one.lying();
            case 3: return one.master();
            default: return BAD;
        }
    }

    public int soil(int mat, int country) {
        if (noMat(mat) || country < 0 || country >= COUNTRIES) {
            return BAD;
        }
        return house.mats[mat].soil[country];
    }

    public int atOne(int mat, int other) {
        if (noMat(mat) || noMat(other)) {
            return BAD;
        }
        return mat != other && house.areAtOne(mat, other) ? 1 : 0;
    }

    // ---- foretold

    public int leaves(int comer, int mat) {
        if (noComer(comer) || noMat(mat)) {
            return BAD;
        }
        walk.begin(house);
        walk.goOver(house, house.comers[comer]);
        return walk.left[mat];
    }

    public int carries(int comer) {
        if (noComer(comer)) {
            return BAD;
        }
        walk.begin(house);
        return walk.goOver(house, house.comers[comer]);
    }

    public int clean() {
        return noHotel() ? STATE : foretold.cleanOnes(house);
    }

    public int order(int k) {
        if (noHotel()) {
            return STATE;
        }
        if (k < -1 || k >= COMERS) {
            return BAD;
        }
        foretold.seekOrder(house);
        return foretold.told(k, house.comerCount);
    }

    public int laying(int k) {
        if (noHotel()) {
            return STATE;
        }
        if (k < -1 || k >= MATS) {
            return BAD;
        }
        foretold.seekLaying(house);
        return foretold.told(k, house.matCount);
    }

    public int beating(int comers, int q, int what) {
        if (noHotel()) {
            return STATE;
        }
        if (comers < 0 || comers > house.allComers() || noCarried(q) || neither(what)) {
            return BAD;
        }
        int mats = foretold.fewestBeaten(house, comers, q);
        return mats == NONE || what == 1 ? mats : Integer.bitCount(mats);
    }

    public int pacts(int what) {
        if (noHotel()) {
            return STATE;
        }
        if (neither(what)) {
            return BAD;
        }
        return what == 0 ? house.pactCount() : house.firstPact();
    }

    public int could(int mat, int other) {
        if (noMat(mat) || noMat(other) || mat == other) {
            return BAD;
        }
        return foretold.uniters(house, mat, other);
    }

    public int who(int row, int i) {
        if (noHotel()) {
            return STATE;
        }
        if (noRow(row)) {
            return BAD;
        }
        int finding = matRowFinding(row, i);
        if (finding != 0) {
            return found(finding);
        }
        return unfound(foretold.culprits(house, rows, row, i));
    }

    public int fits(int comer, int row, int i, int what) {
        if (noComer(comer) || noRow(row) || what < 0 || what >= Foretold.TRAITS) {
            return BAD;
        }
        int finding = matRowFinding(row, i);
        if (finding != 0) {
            return found(finding);
        }
        foretold.tryAs(house.comers[comer]);
        return unfound(foretold.fitting(house, what, rows, row, i));
    }

    public int absent(int q, int c, int what) {
        if (noHotel()) {
            return STATE;
        }
        if (noCarried(q) || c < 0 || c > 10 || neither(what)) {
            return BAD;
        }
        return foretold.likelihood(house, q, c, what == 0);
    }

    public int drawn(int n, int seed, int what) {
        if (noHotel()) {
            return STATE;
        }
        if (n < 0 || n > 60 || seed < 1 || seed > 999999 || neither(what)) {
            return BAD;
        }
        return foretold.years(house, n, seed, what == 0);
    }

    public int image(int k) {
        if (noImage(k)) {
            return BAD;
        }
        if (noHotel()) {
            return STATE;
        }
        images[k].takeOver(house);
        kept[k] = true;
        return 1;
    }

    public int restore(int k) {
        if (noImage(k)) {
            return BAD;
        }
        if (!kept[k]) {
            return STATE;
        }
        house.takeOver(images[k]);
        history.forget();
        return 1;
    }

    // ---- asked

    public int kind(int comer) {
        return noComer(comer) ? BAD : house.comers[comer].sort;
    }

    public int as(int comer, int kind) {
        if (noComer(comer) || kind < 0 || kind >= KINDS) {
            return BAD;
        }
        if (!house.comers[comer].isOf(kind)) {
            return found(KIND);
        }
        return unfound(comer);
    }

    public int ask(int comer, int what) {
        if (noComer(comer) || neither(what)) {
            return BAD;
        }
        return asks.answer(house.comers[comer], comer, what);
    }

    public int trace(int i) {
        return asks.traced(i);
    }

    public int count(int what) {
        switch (what) {
            case 0: return rows.present();
            case 1: return house.matCount;
            case 2: return house.comerCount;
            case 3: return house.limit;
            case 4: return house.lyingInAll();
            case 5: return house.comings();
            case 6: return history.size();
            case 7: return reader.size();
            default: return BAD;
        }
    }

    public int status() {
        return latestFinding;
    }

    // ---- refusals and findings

    private static boolean noRow(int row) {
        return row < 0 || row >= Rows.ROWS;
    }

    private static boolean noImage(int k) {
        return k < 0 || k >= IMAGES;
    }

    private static boolean noCarried(int q) {
        return q < 0 || q > MOST_CARRIED;
    }

    private static boolean neither(int what) {
        return what != 0 && what != 1;
    }

    /** A HOTEL that was read has one MAT at least, so none of them tells that there is no HOTEL. */
    private boolean noHotel() {
        return house.matCount == 0;
    }

    private boolean noComer(int comer) {
        return comer < 0 || comer >= house.comerCount;
    }

    private boolean noMat(int mat) {
        return mat < 0 || mat >= house.matCount;
    }

    private int found(int finding) {
        latestFinding = finding;
        return FINDINGS - finding;
    }

    private int unfound(int answer) {
        latestFinding = 0;
        return answer;
    }

    /** The FINDING of a ROW that has to tell, from i on, of all MATS; 0: none. */
    private int matRowFinding(int row, int i) {
        if (rows.isMissing(row)) {
            return NULL;
        }
        return rows.reaches(row, i, house.matCount) ? 0 : PLACE;
    }

    /** All ROWS, with room for the longest ones from the start, so that no call has to make any. */
    private static final class Rows {
        static final int ROWS = 8, LANES = 3, ITEMS = 40;
        private static final int MISSING = -1;

        private final int[] items = new int[ROWS * ITEMS];
        private final int[] lanes = new int[ROWS];
        private final int[] sizes = new int[ROWS];

        Rows() {
            for (int row = 0; row < ROWS; row++) {
                sizes[row] = MISSING;
            }
        }

        boolean isMissing(int row) {
            return sizes[row] == MISSING;
        }

        boolean sameLane(int a, int b) {
            return lanes[a] == lanes[b];
        }

        /** Whether a ROW has n ITEMS from i on; n is taken off, not added, so that nothing wraps around. */
        boolean reaches(int row, int i, int n) {
            return i >= 0 && n >= 0 && i <= sizes[row] - n;
        }

        int item(int row, int i) {
            return items[row * ITEMS + i];
        }

        void make(int row, int lane, int n) {
            lanes[row] = lane;
            sizes[row] = n;
            for (int i = 0; i < ITEMS; i++) {
                items[row * ITEMS + i] = 0;
            }
        }

        int put(int row, int i, int v) {
            int cut = v;
            if (lanes[row] == 0) {
                cut = (byte) v;
            } else if (lanes[row] == 1) {
                cut = (short) v;
            }
            items[row * ITEMS + i] = cut;
            return cut;
        }

        void carryOver(int a, int i, int b, int j, int n) {
            System.arraycopy(items, a * ITEMS + i, items, b * ITEMS + j, n);
        }

        int remove(int row) {
            int size = sizes[row];
            sizes[row] = MISSING;
            return size;
        }

        int present() {
            int found = 0;
            for (int row = 0; row < ROWS; row++) {
                if (!isMissing(row)) {
                    found++;
                }
            }
            return found;
        }
    }

    /** THE TAPE, and the reading of it. */
    private static final class Reader {
        private static final int BYTES = 100;
        private static final int CANNOT_STAND = 1, NOT_AS_TOLD = 2, NO_ROOM = 3;
        private static final int REFUSED = -1, END = -1;

        private final int[] bytes = new int[BYTES];
        private int length;
        private int at;
        private int wrong;

        boolean isFull() {
            return length >= BYTES;
        }

        int size() {
            return length;
        }

        int append(int letter) {
            if (length < BYTES) {
                bytes[length] = letter;
                length++;
            }
            return length;
        }

        /** Where the latest reading ended: the place of its FAULT, if it had one. */
        int place() {
            return at;
        }

        /** Reads a HOTEL, and empties the tape: the number of the FAULT; 0: none. */
        int readInto(House house) {
            at = 0;
            wrong = 0;
            house.clear();
            if (readLaw(house) && readMats(house)) {
                readComers(house);
            }
            length = 0;
            return wrong;
        }

        private boolean readLaw(House house) {
            if (!takeByte('d')) {
                return false;
            }
            house.limit = takeNumber(1, 60);
            if (house.limit == REFUSED || !takeByte(',')) {
                return false;
            }
            house.bond = takeNumber(1, 9);
            return house.bond != REFUSED && takeByte(';');
        }

        private boolean readMats(House house) {
            do {
                if (seen() == 'm' && house.matCount >= MATS) {
                    return refuse(NO_ROOM);
                }
                if (!takeByte('m')) {
                    return false;
                }
                int country = takeNumber(0, COUNTRIES - 1);
                if (country == REFUSED || !takeByte(';')) {
                    return false;
                }
                house.mats[house.matCount].country = country;
                house.matCount++;
            } while (house.matCount <= MATS && seen() == 'm');
            return true;
        }

        private boolean readComers(House house) {
            while (at < length) {
                int sort = sortOf(seen());
                if (sort == REFUSED) {
                    return refuse(CANNOT_STAND);
                }
                if (house.comerCount >= COMERS) {
                    return refuse(NO_ROOM);
                }
                at++;
                Comer comer = house.comers[house.comerCount];
                comer.sort = sort;
                if (!readTraits(comer)) {
                    return false;
                }
                house.comerCount++;
            }
            return true;
        }

        private boolean readTraits(Comer comer) {
            comer.soil = takeNumber(0, 30);
            if (comer.soil == REFUSED || !takeByte(',')) {
                return false;
            }
            comer.from = takeNumber(0, COUNTRIES - 1);
            if (comer.from == REFUSED || !takeByte(',')) {
                return false;
            }
            comer.manners = takeNumber(1, 9);
            return comer.manners != REFUSED && takeByte(';');
        }

        private static int sortOf(int letter) {
            switch (letter) {
                case 'w': return WIPER;
                case 'g': return GUEST;
                case 't': return THIEF;
                case 's': return STAMPER;
                case 'e': return ENVOY;
                default: return REFUSED;
            }
        }

        private int seen() {
            return at < length ? bytes[at] : END;
        }

        private boolean refuse(int number) {
            wrong = number;
            return false;
        }

        private boolean takeByte(int due) {
            if (seen() != due) {
                return refuse(CANNOT_STAND);
            }
            at++;
            return true;
        }

        private int takeNumber(int least, int most) {
            int end = at;
            int number = 0;
            while (end < length && end < at + 3 && isFigure(bytes[end])) {
                number = number * 10 + bytes[end] - '0';
                end++;
            }
            if (end == at || end == at + 3) {
                wrong = CANNOT_STAND;
                return REFUSED;
            }
            if (number < least || number > most) {
                wrong = NOT_AS_TOLD;
                return REFUSED;
            }
            at = end;
            return number;
        }

        private static boolean isFigure(int letter) {
            return letter >= '0' && letter <= '9';
        }
    }

    /** A MAT with what lies there of each COUNTRY. */
    private static final class Mat {
        int country;
        final int[] soil = new int[COUNTRIES];

        int lying() {
            int sum = 0;
            for (int c = 0; c < COUNTRIES; c++) {
                sum += soil[c];
            }
            return sum;
        }

        int master() {
            int best = 0;
            for (int c = 1; c < COUNTRIES; c++) {
                if (soil[c] > soil[best]) {
                    best = c;
                }
            }
            return soil[best] > 0 ? best : NONE;
        }

        void empty() {
            for (int c = 0; c < COUNTRIES; c++) {
                soil[c] = 0;
            }
        }

        void takeOver(Mat other) {
            country = other.country;
            System.arraycopy(other.soil, 0, soil, 0, COUNTRIES);
        }
    }

    /** A COMER, with all by which he wipes. */
    private static final class Comer {
        /** The nearest KIND that each KIND is, too. */
        private static final int[] PARENTS = {-1, 0, WIPER, WIPER, 0, STAMPER};

        int sort;
        int soil;
        int from;
        int manners;
        int came;

        void takeOver(Comer other) {
            sort = other.sort;
            soil = other.soil;
            from = other.from;
            manners = other.manners;
            came = other.came;
        }

        /** What he leaves at a place on a MAT of a COUNTRY, were there no end to what he has and it takes. */
        int wipes(int place, int country, int has) {
            switch (sort) {
                case WIPER: return manners;
                case GUEST: return from == country ? 2 * manners : manners;
                case THIEF: return place == 0 ? 0 : manners;
                case STAMPER: return place == 0 ? has / 2 : 0;
                case ENVOY: return has / 2;
                default: return 0;
            }
        }

        boolean isOf(int kind) {
            int own = sort;
            for (int level = 0; level < KINDS && own > 0 && own < KINDS && own != kind; level++) {
                own = PARENTS[own];
            }
            return own == kind;
        }
    }

    /** The HOTEL: its law, its MATS, its COMERS. Without MATS: no HOTEL. */
    private static final class House {
        /** How many numbers tell all that an ACT may alter. */
        static final int CELLS = MATS * (1 + COUNTRIES) + COMERS * 2;

        int limit;
        int bond;
        int matCount;
        int comerCount;
        final Mat[] mats = new Mat[MATS];
        final Comer[] comers = new Comer[COMERS];

        House() {
            for (int m = 0; m < MATS; m++) {
                mats[m] = new Mat();
            }
            for (int c = 0; c < COMERS; c++) {
                comers[c] = new Comer();
            }
        }

        void clear() {
            limit = 0;
            bond = 0;
            matCount = 0;
            comerCount = 0;
            for (int m = 0; m < MATS; m++) {
                mats[m].empty();
            }
            for (int c = 0; c < COMERS; c++) {
                comers[c].came = 0;
            }
        }

        void takeOver(House other) {
            limit = other.limit;
            bond = other.bond;
            matCount = other.matCount;
            comerCount = other.comerCount;
            for (int m = 0; m < MATS; m++) {
                mats[m].takeOver(other.mats[m]);
            }
            for (int c = 0; c < COMERS; c++) {
                comers[c].takeOver(other.comers[c]);
            }
        }

        void writeCells(int[] cells, int start) {
            int next = start;
            for (int m = 0; m < MATS; m++) {
                cells[next] = mats[m].country;
                System.arraycopy(mats[m].soil, 0, cells, next + 1, COUNTRIES);
                next += 1 + COUNTRIES;
            }
            for (int c = 0; c < COMERS; c++) {
                cells[next] = comers[c].soil;
                cells[next + 1] = comers[c].came;
                next += 2;
            }
        }

        void readCells(int[] cells, int start) {
            int next = start;
            for (int m = 0; m < MATS; m++) {
                mats[m].country = cells[next];
                System.arraycopy(cells, next + 1, mats[m].soil, 0, COUNTRIES);
                next += 1 + COUNTRIES;
            }
            for (int c = 0; c < COMERS; c++) {
                comers[c].soil = cells[next];
                comers[c].came = cells[next + 1];
                next += 2;
            }
        }

        int allComers() {
            return (1 << comerCount) - 1;
        }

        int receive(Comer one, Walk walk) {
            walk.begin(this);
            int carried = walk.goOver(this, one);
            for (int m = 0; m < matCount; m++) {
                mats[m].soil[one.from] += walk.left[m];
            }
            one.came++;
            return carried;
        }

        void swapWithNext(int mat) {
            Mat first = mats[mat];
            mats[mat] = mats[mat + 1];
            mats[mat + 1] = first;
        }

        int rainOnAll(int v) {
            int sum = 0;
            for (int c = 0; c < comerCount; c++) {
                comers[c].soil = Math.min(MOST_SOIL, comers[c].soil + v);
                sum += comers[c].soil;
            }
            return sum;
        }

        boolean areAtOne(int a, int b) {
            return mats[a].soil[mats[b].country] >= bond && mats[b].soil[mats[a].country] >= bond;
        }

        int pactCount() {
            int pairs = 0;
            for (int a = 0; a < matCount; a++) {
                for (int b = a + 1; b < matCount; b++) {
                    if (areAtOne(a, b)) {
                        pairs++;
                    }
                }
            }
            return pairs;
        }

        int firstPact() {
            for (int a = 0; a < matCount; a++) {
                for (int b = a + 1; b < matCount; b++) {
                    if (areAtOne(a, b)) {
                        return 10 * a + b;
                    }
                }
            }
            return NONE;
        }

        int lyingInAll() {
            int sum = 0;
            for (int m = 0; m < matCount; m++) {
                sum += mats[m].lying();
            }
            return sum;
        }

        int comings() {
            int sum = 0;
            for (int c = 0; c < comerCount; c++) {
                sum += comers[c].came;
            }
            return sum;
        }
    }

    /** The ACTS that can be undone: for each, what it may have altered, as it was ahead of it. */
    private static final class History {
        private static final int ACTS = 24;

        private final int[] cells = new int[ACTS * House.CELLS];
        private int next;
        private int size;

        boolean isEmpty() {
            return size == 0;
        }

        int size() {
            return size;
        }

        void forget() {
            size = 0;
        }

        /** Being a ring, it writes over the oldest ACT when there are more than can be kept. */
        void keep(House house) {
            house.writeCells(cells, next * House.CELLS);
            next = (next + 1) % ACTS;
            size = Math.min(ACTS, size + 1);
        }

        int takeBack(House house) {
            if (size > 0) {
                next = (next + ACTS - 1) % ACTS;
                size--;
                house.readCells(cells, next * House.CELLS);
            }
            return size;
        }
    }

    /** COMERS going over the MATS on trial: the HOTEL itself stays as it is. */
    private static final class Walk {
        /** Which MAT lies at each place. */
        final int[] laid = new int[MATS];
        /** How much lies on each MAT by now. */
        final int[] lying = new int[MATS];
        /** What the latest one left on each MAT. */
        final int[] left = new int[MATS];

        void begin(House house) {
            for (int m = 0; m < MATS; m++) {
                laid[m] = m;
                lying[m] = house.mats[m].lying();
                left[m] = 0;
            }
        }

        /** One goes over all MATS: what is CARRIED in. */
        int goOver(House house, Comer one) {
            int has = one.soil;
            for (int place = 0; place < house.matCount; place++) {
                int m = laid[place];
                int wiped = one.wipes(place, house.mats[m].country, has);
                left[m] = Math.min(wiped, Math.min(has, house.limit - lying[m]));
                lying[m] += left[m];
                has -= left[m];
            }
            return has;
        }

        /** The told ones (bits) go by numbers: what is CARRIED in, in all. */
        int allGoOver(House house, int comers) {
            int carried = 0;
            for (int c = 0; c < house.comerCount; c++) {
                if ((comers >> c & 1) == 1) {
                    carried += goOver(house, house.comers[c]);
                }
            }
            return carried;
        }

        int lyingInAll(House house) {
            int sum = 0;
            for (int m = 0; m < house.matCount; m++) {
                sum += lying[m];
            }
            return sum;
        }
    }

    /** All that is FORETOLD by trying it on a walk. */
    private static final class Foretold {
        static final int TRAITS = 4;
        /** For each trait (SORTS, SOILS, MANNERS, FROM), the least and the greatest that is tried. */
        private static final int[] FIRST_TRIED = {WIPER, 0, 1, 0};
        private static final int[] LAST_TRIED = {ENVOY, 29, 9, COUNTRIES - 1};
        private static final int MOST_EUCLID_STEPS = 64;
        /** More than all COMERS together can carry in. */
        private static final int BEYOND_ALL = COMERS * MOST_SOIL + 1;

        private final Walk walk = new Walk();
        private final Comer suspect = new Comer();
        /** What lies on all MATS ahead of each level of the search for an ORDER. */
        private final int[] levels = new int[COMERS * MATS];
        private final int[] tried = new int[COMERS];
        private final int[] best = new int[COMERS];
        private int least;

        int cleanOnes(House house) {
            int ones = 0;
            for (int c = 0; c < house.comerCount; c++) {
                walk.begin(house);
                if (walk.goOver(house, house.comers[c]) == 0) {
                    ones |= 1 << c;
                }
            }
            return ones;
        }

        /** Of the row sought last, which has so many: how much (k = -1), the k-th. */
        int told(int k, int size) {
            if (k == -1) {
                return least;
            }
            return k >= 0 && k < size && k < COMERS ? best[k] : NONE;
        }

        void seekOrder(House house) {
            least = BEYOND_ALL;
            walk.begin(house);
            tryOrders(house, 0, 0, 0);
        }

        /** Rows are tried in their order, so only one by which less is CARRIED in comes in place of the best. */
        private void tryOrders(House house, int depth, int taken, int carried) {
            if (carried >= least) {
                return;
            }
            if (depth >= house.comerCount || depth >= COMERS) {
                keepTried(depth, carried);
                return;
            }
            System.arraycopy(walk.lying, 0, levels, depth * MATS, MATS);
            for (int c = 0; c < house.comerCount; c++) {
                if ((taken >> c & 1) == 0) {
                    System.arraycopy(levels, depth * MATS, walk.lying, 0, MATS);
                    tried[depth] = c;
                    int more = walk.goOver(house, house.comers[c]);
                    tryOrders(house, depth + 1, taken | 1 << c, carried + more);
                }
            }
        }

        void seekLaying(House house) {
            least = BEYOND_ALL;
            tryLayings(house, 0, 0);
        }

        private void tryLayings(House house, int depth, int taken) {
            if (depth >= house.matCount || depth >= MATS) {
                walk.begin(house);
                System.arraycopy(tried, 0, walk.laid, 0, depth);
                int carried = walk.allGoOver(house, house.allComers());
                if (carried < least) {
                    keepTried(depth, carried);
                }
                return;
            }
            for (int m = 0; m < house.matCount; m++) {
                if ((taken >> m & 1) == 0) {
                    tried[depth] = m;
                    tryLayings(house, depth + 1, taken | 1 << m);
                }
            }
        }

        private void keepTried(int size, int carried) {
            least = carried;
            System.arraycopy(tried, 0, best, 0, size);
        }

        /** The MATS (bits) to be beaten; NONE. Sets are tried upwards, so of several the least stays. */
        int fewestBeaten(House house, int comers, int q) {
            int fewest = NONE;
            for (int mats = 0; mats < 1 << house.matCount; mats++) {
                boolean fewer = fewest == NONE || Integer.bitCount(mats) < Integer.bitCount(fewest);
                if (fewer && carriedIfBeaten(house, comers, mats) <= q) {
                    fewest = mats;
                }
            }
            return fewest;
        }

        private int carriedIfBeaten(House house, int comers, int mats) {
            walk.begin(house);
            for (int m = 0; m < house.matCount; m++) {
                if ((mats >> m & 1) == 1) {
                    walk.lying[m] = 0;
                }
            }
            return walk.allGoOver(house, comers);
        }

        /** The COMERS (bits) behind whose COMING two MATS would be AT ONE. */
        int uniters(House house, int a, int b) {
            int ones = 0;
            for (int c = 0; c < house.comerCount; c++) {
                walk.begin(house);
                walk.goOver(house, house.comers[c]);
                int from = house.comers[c].from;
                if (bindsTo(house, a, b, from) && bindsTo(house, b, a, from)) {
                    ones |= 1 << c;
                }
            }
            return ones;
        }

        /** Whether enough of the other MAT's COUNTRY lies on a MAT behind the latest one, who was FROM there. */
        private boolean bindsTo(House house, int mat, int other, int from) {
            int country = house.mats[other].country;
            int more = country == from ? walk.left[mat] : 0;
            return house.mats[mat].soil[country] + more >= house.bond;
        }

        /** The COMERS (bits) behind whose COMING it is as ITEMS of a ROW tell. */
        int culprits(House house, Rows rows, int row, int i) {
            int ones = 0;
            for (int c = 0; c < house.comerCount; c++) {
                if (isSoBehind(house, house.comers[c], rows, row, i)) {
                    ones |= 1 << c;
                }
            }
            return ones;
        }

        void tryAs(Comer one) {
            suspect.takeOver(one);
        }

        /** What (bits) a trait of the suspect may be, so that it is as ITEMS of a ROW tell. */
        int fitting(House house, int trait, Rows rows, int row, int i) {
            int fitting = 0;
            for (int value = FIRST_TRIED[trait]; value <= LAST_TRIED[trait]; value++) {
                giveTrait(trait, value);
                if (isSoBehind(house, suspect, rows, row, i)) {
                    fitting |= 1 << value;
                }
            }
            return fitting;
        }

        private void giveTrait(int trait, int value) {
            switch (trait) {
                case 0: suspect.sort = value; break;
                case 1: suspect.soil = value; break;
                case 2: suspect.manners = value; break;
                default: suspect.from = value; break;
            }
        }

        private boolean isSoBehind(House house, Comer one, Rows rows, int row, int i) {
            walk.begin(house);
            walk.goOver(house, one);
            for (int m = 0; m < house.matCount; m++) {
                if (walk.lying[m] != rows.item(row, i + m)) {
                    return false;
                }
            }
            return true;
        }

        /** The fraction's number above, or below, by which q or less is CARRIED in. */
        int likelihood(House house, int q, int c, boolean above) {
            int whole = 1;
            for (int i = 0; i < house.comerCount; i++) {
                whole *= 10;
            }
            int part = 0;
            for (int present = 0; present <= house.allComers(); present++) {
                walk.begin(house);
                if (walk.allGoOver(house, present) <= q) {
                    part += weight(house, present, c);
                }
            }
            int shared = commonDivisor(whole, part);
            return shared == 0 ? NONE : (above ? part : whole) / shared;
        }

        /** Of 10 to the power of how many COMERS there are, by how much just these are present. */
        private static int weight(House house, int present, int c) {
            int weight = 1;
            for (int i = 0; i < house.comerCount; i++) {
                weight *= (present >> i & 1) == 1 ? 10 - c : c;
            }
            return weight;
        }

        private static int commonDivisor(int a, int b) {
            int greater = a;
            int rest = b;
            for (int step = 0; step < MOST_EUCLID_STEPS && rest != 0; step++) {
                int next = greater % rest;
                greater = rest;
                rest = next;
            }
            return greater;
        }

        /** What is CARRIED in, or lies on all MATS, by draws. */
        int years(House house, int n, int seed, boolean carriedIn) {
            long x = seed;
            int carried = 0;
            walk.begin(house);
            for (int i = 0; i < n; i++) {
                x = x * 16807 % 2147483647;
                if (x % 7 == 0 && house.matCount > 0) {
                    walk.lying[(int) (x % house.matCount)] = 0;
                }
                if (house.comerCount > 0) {
                    carried += walk.goOver(house, house.comers[(int) (x % house.comerCount)]);
                }
            }
            return carriedIn ? carried : walk.lyingInAll(house);
        }
    }

    /** ASKS of COMERS, and THE TRACE of the BODIES that began. */
    private static final class Asks {
        private static final int SIZES = 0, MARKS = 1;
        private static final int TRACED = 16, DEEPEST = 16;
        /** The BODY that begins, by KIND: its own, or the one of the nearest KIND that it is, too. */
        private static final int[] SIZE_BODIES = {10, 11, 12, 11, 13, 14};
        private static final int[] MARK_BODIES = {20, 21, 24, 22, 23, 23};

        private final int[] begun = new int[TRACED];
        private int size;

        int answer(Comer one, int number, int what) {
            size = 0;
            return give(bodyOf(one, what), one, number, 0);
        }

        int traced(int i) {
            return i >= 0 && i < size ? begun[i] : NONE;
        }

        private static int bodyOf(Comer one, int what) {
            int sort = one.sort >= 0 && one.sort < KINDS ? one.sort : 0;
            return what == SIZES ? SIZE_BODIES[sort] : MARK_BODIES[sort];
        }

        private void leaveTrace(int body) {
            if (size < TRACED) {
                begun[size] = body;
                size++;
            }
        }

        /** No ask comes back to itself, so the guard on the depth is never reached. */
        private int give(int body, Comer one, int number, int depth) {
            if (depth > DEEPEST) {
                return 0;
            }
            leaveTrace(body);
            int next = depth + 1;
            switch (body) {
                case 10: return one.soil;
                case 11: return give(10, one, number, next) + give(bodyOf(one, MARKS), one, number, next);
                case 12: return -give(11, one, number, next);
                case 13: return give(10, one, number, next) - 100;
                case 14: return 2 * give(13, one, number, next);
                case 20: return number;
                case 21: return give(20, one, number, next) + one.came;
                case 22: return give(21, one, number, next) - 1000;
                case 23: return give(20, one, number, next) - give(bodyOf(one, SIZES), one, number, next);
                case 24: return 2 * give(21, one, number, next);
                default: return 0;
            }
        }
    }
}
