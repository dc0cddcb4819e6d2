/** An island on which grief is let out by the day, one person each; the promises are told in DOC.md. */
public final class OneMourner {
    public static final int NONE = -1, BAD = -2, STATE = -3, FULL = -4;
    /** There is no such number. */
    public static final long NO = Long.MIN_VALUE;

    private static final int NOBODY = -5;
    private static final int NOTHING = -11, CAST = -12, PLACE = -13, SIZE = -14;

    private static final int MOURNER = 0, BROODER = 1, MENDER = 2, SAVER = 3, MOTHER = 4, CHILD = 5, TOLD = 6;
    /** By KIND, the KIND above it. */
    private static final int[] ABOVE = {NONE, MOURNER, MOURNER, MOURNER, BROODER, MENDER, SAVER};

    private static final int MOST_MOURNERS = 6, MOST_ISLANDS = 6, MOST_TEXT = 100, MOST_CLAUSES = 10, MOST_OPEN = 4;
    private static final int MOST_V = 9, MOST_GRIEF = 99, MOST_WAITED = 99, MOST_HURT = 99999;
    private static final int MOST_DAY = 9999, MOST_AHEAD = 60, PARTS = 4;
    private static final int MOST_SEEN = 5, MOST_PAIN = 999, MOST_SEEN_AHEAD = 20, MOST_WAITS = 60;
    private static final int MOST_PLAN = 10, MOST_BOOK = 8, MOST_ODDS = 9999;
    private static final int TAPES = 6, MOST_ITEMS = 60, MOST_TRACE = 20;
    /** What is asked goes on beyond MOST_HURT; no run gets near this. */
    private static final int NO_MOST = 0x7fffffff;

    private final Island without = new Island();
    private final Mourning now = new Mourning(without);
    private final Mourning ahead = new Mourning(without);
    private final Mourning image = new Mourning(without);
    private boolean imaged;
    private final Reader reader = new Reader();
    private Island blank = new Island();
    private int islands;
    private final Rows rows = new Rows();
    private final Acts acts = new Acts();
    private final Tape[] tapes = new Tape[TAPES];

    public OneMourner() {
        for (int t = 0; t < TAPES; t++) {
            tapes[t] = new Tape();
        }
    }

    // ---- mourners, islands, the list

    public int mourner(int kind, int v, int grief) {
        if (!within(kind, MOURNER, TOLD)) {
            return NONE;
        }
        if (!within(v, 0, MOST_V) || !within(grief, 0, MOST_GRIEF)) {
            return BAD;
        }
        if (now.count >= MOST_MOURNERS) {
            return FULL;
        }
        now.mourners[now.count].comes(kind, v, grief);
        now.count++;
        return now.count - 1;
    }

    public int of(int mourner, int what) {
        if (!isMourner(mourner)) {
            return NONE;
        }
        Mourner one = now.mourners[mourner];
        switch (what) {
            case 0: return one.kind;
            case 1: return one.v;
            case 2: return one.grief;
            case 3: return one.waited;
            case 4: return one.hurt;
            case 5: return bit(one.done);
            case 6: return now.placeOf(mourner);
            case 7: return now.painOf(one, 0);
            default: return NONE;
        }
    }

    public int set(int mourner, int what, int n) {
        if (!isMourner(mourner) || !within(what, 0, 2)) {
            return NONE;
        }
        int most = what == 0 ? MOST_GRIEF : what == 1 ? MOST_WAITED : MOST_HURT;
        if (!within(n, 0, most)) {
            return BAD;
        }
        Mourner one = now.mourners[mourner];
        int was;
        if (what == 0) {
            was = one.grief;
            one.grief = n;
        } else if (what == 1) {
            was = one.waited;
            one.waited = n;
        } else {
            was = one.hurt;
            one.hurt = n;
        }
        return was;
    }

    public int done(int mourner, boolean is) {
        if (!isMourner(mourner)) {
            return NONE;
        }
        int was = bit(now.mourners[mourner].done);
        now.mourners[mourner].done = is;
        return was;
    }

    public int list(int mourner) {
        if (mourner == -1) {
            now.listed = 0;
            return 0;
        }
        if (!isMourner(mourner)) {
            return NONE;
        }
        if (now.placeOf(mourner) >= 0 || now.listed >= MOST_MOURNERS) {
            return STATE;
        }
        now.list[now.listed] = mourner;
        now.listed++;
        return now.listed;
    }

    public int swap(int one, int other) {
        if (!isMourner(one) || !isMourner(other)) {
            return NONE;
        }
        if (one == other) {
            return BAD;
        }
        int place = now.placeOf(one);
        int otherPlace = now.placeOf(other);
        if (place < 0 || otherPlace < 0) {
            return STATE;
        }
        now.list[place] = other;
        now.list[otherPlace] = one;
        return otherPlace;
    }

    public int row(int mourner, int part, int n) {
        if (!isMourner(mourner) || !within(part, 0, PARTS - 1)) {
            return NONE;
        }
        if (!within(n, 0, 9)) {
            return BAD;
        }
        Mourner one = now.mourners[mourner];
        if (one.kind != TOLD) {
            return STATE;
        }
        int was = one.row[part];
        one.row[part] = n;
        return was;
    }

    public int feed(int sign) {
        if (!within(sign, 0, 127)) {
            return BAD;
        }
        if (reader.size >= MOST_TEXT) {
            return FULL;
        }
        reader.text[reader.size] = (byte) sign;
        reader.size++;
        return reader.size;
    }

    public int island() {
        if (islands >= MOST_ISLANDS) {
            return FULL;
        }
        boolean read = reader.reads(blank);
        reader.size = 0;
        if (!read) {
            return -10 - reader.at;
        }
        now.island = blank;
        blank = new Island();
        islands++;
        return islands - 1;
    }

    public int told(int what) {
        switch (what) {
            case 0: return now.day;
            case 1: return now.island.lost;
            case 2: return bit(now.isLost(now.day));
            case 3: return now.hurtOfAll();
            case 4: return now.howManyDone();
            case 5: return now.hasDay();
            case 6: return rows.agreed(now);
            case 7: return rows.dear(now, false);
            case 8: return rows.dear(now, true);
            default: return NONE;
        }
    }

    // ---- days

    public int pass(int n) {
        if (!within(n, 0, MOST_AHEAD)) {
            return BAD;
        }
        if (now.day + n > MOST_DAY) {
            return STATE;
        }
        now.go(n, MOST_HURT);
        return now.day;
    }

    public int on(int n, int what) {
        boolean ofOne = what >= 10 && isMourner(what - 10);
        if (what != 0 && what != 1 && !ofOne) {
            return NONE;
        }
        if (!within(n, 0, MOST_AHEAD)) {
            return BAD;
        }
        ahead.becomes(now);
        ahead.go(n, NO_MOST);
        if (ofOne) {
            return ahead.mourners[what - 10].hurt;
        }
        return what == 0 ? ahead.hurtOfAll() : ahead.howManyDone();
    }

    public int turn(int mourner) {
        if (!isMourner(mourner)) {
            return NONE;
        }
        ahead.becomes(now);
        for (int days = 0; days <= MOST_AHEAD; days++) {
            if (ahead.mourners[mourner].done) {
                return days;
            }
            ahead.go(1, NO_MOST);
        }
        return NOBODY;
    }

    public int empty() {
        ahead.becomes(now);
        for (int days = 0; days <= MOST_AHEAD; days++) {
            if (ahead.howManyDone() == ahead.count) {
                return days;
            }
            ahead.go(1, NO_MOST);
        }
        return NOBODY;
    }

    // ---- rows

    public int best(int what, int k) {
        if (!within(what, 0, 1) || !within(k, -1, MOST_MOURNERS - 1)) {
            return NONE;
        }
        rows.walk(now, 0);
        if (k < 0) {
            return what == 0 ? rows.leastHurt : rows.fairHurt;
        }
        if (k >= rows.size) {
            return NOBODY;
        }
        return what == 0 ? rows.least[k] : rows.fair[k];
    }

    // ---- seen, odds

    public int see(int mourner, int pain, int n) {
        if (mourner == -1) {
            now.seen.size = 0;
            return 0;
        }
        if (!isMourner(mourner)) {
            return NONE;
        }
        if (!within(pain, 0, MOST_PAIN) || !within(n, 0, MOST_SEEN_AHEAD)) {
            return BAD;
        }
        return now.seen.add(mourner, pain, n);
    }

    public int can(int mourner, int which, int what) {
        if (!isMourner(mourner) || !within(which, 0, 2) || !within(what, 0, 1)) {
            return NONE;
        }
        ahead.becomes(now);
        Mourner one = ahead.mourners[mourner];
        int most = which == 0 ? MOST_GRIEF : which == 1 ? MOST_WAITS : MOST_V;
        int many = 0;
        int least = NOBODY;
        for (int n = most; n >= 0; n--) {
            if (which == 0) {
                one.grief = n;
            } else if (which == 1) {
                one.waited = n;
            } else {
                one.v = n;
            }
            if (ahead.isAsSeen(one)) {
                many++;
                least = n;
            }
        }
        return what == 0 ? many : least;
    }

    public long odds(int q, int part) {
        if (!within(q, 0, MOST_ODDS) || !within(part, 0, 1)) {
            return NO;
        }
        rows.walk(now, q);
        return inLowestTerms(rows.upToQ, rows.walked, part);
    }

    public long mean(int part) {
        if (!within(part, 0, 1)) {
            return NO;
        }
        rows.walk(now, 0);
        return inLowestTerms(rows.together, rows.walked, part);
    }

    // ---- plans, books

    public int plan(int what, int mourner) {
        if (what == -1) {
            now.plan.size = 0;
            return 0;
        }
        if (!within(what, 0, 3) || (what != 0 && !isMourner(mourner))) {
            return NONE;
        }
        return now.plan.add(what, mourner, 0);
    }

    public int ends(int what) {
        if (!within(what, 0, 1)) {
            return NONE;
        }
        ahead.becomes(now);
        ahead.goByPlan();
        return what == 0 ? ahead.hurtOfAll() : ahead.howManyDone();
    }

    public int book(int mourner, int hurt) {
        if (mourner == -1) {
            now.book.size = 0;
            return 0;
        }
        if (!isMourner(mourner)) {
            return NONE;
        }
        if (!within(hurt, 0, MOST_HURT)) {
            return BAD;
        }
        return now.book.add(mourner, hurt, 0);
    }

    public int looked() {
        for (int r = 0; r < now.book.size; r++) {
            int mourner = now.book.first[r];
            if (isMourner(mourner) && now.mourners[mourner].hurt != now.book.second[r]) {
                return r;
            }
        }
        return NOBODY;
    }

    // ---- judging, the image, acts, tapes

    public int judge(int tape, int i) {
        if (!isTape(tape)) {
            return NONE;
        }
        Tape told = tapes[tape];
        if (told.sort != Tape.NO_SORT && told.sort != Tape.INTS) {
            return CAST;
        }
        for (int p = 0; p < now.count; p++) {
            // i is taken from the size, as i + p may wrap
            if (i < 0 || i >= told.size - p) {
                return 100 + p;
            }
            if (told.items[i + p] != now.mourners[p].hurt) {
                return p;
            }
        }
        return NOBODY;
    }

    public int image() {
        image.becomes(now);
        imaged = true;
        return now.count;
    }

    public int undo() {
        if (!imaged) {
            return STATE;
        }
        now.becomes(image);
        return now.count;
    }

    public int act(int mourner, int act, int x) {
        acts.ran = 0;
        if (!isMourner(mourner) || !within(act, Acts.WEEPS, Acts.TELLS)) {
            return 0;
        }
        Mourner one = now.mourners[mourner];
        return acts.body(one, one.kind, act, x, 0);
    }

    public int trace(int i) {
        return within(i, 0, MOST_TRACE - 1) && i < acts.ran ? acts.kept[i] : NONE;
    }

    public int taken(int mourner, int k) {
        if (!within(k, MOURNER, TOLD)) {
            return BAD;
        }
        if (!isMourner(mourner)) {
            return NOTHING;
        }
        int kind = now.mourners[mourner].kind;
        int above = kind;
        for (int left = ABOVE.length; left > 0 && above != k; left--) {
            above = kindAbove(above);
        }
        return above == k ? kind : CAST;
    }

    public int count(int what) {
        switch (what) {
            case 0: return now.count;
            case 1: return islands;
            case 2: return now.listed;
            case 3: return now.seen.size;
            case 4: return now.plan.size;
            case 5: return now.book.size;
            case 6: return reader.size;
            case 7: return acts.ran;
            default: return BAD;
        }
    }

    public int tape(int tape, int sort, int n) {
        if (!isTape(tape)) {
            return NONE;
        }
        if (sort == Tape.NO_SORT) {
            tapes[tape].becomes(sort, 0);
            return 1;
        }
        if (!within(sort, Tape.BYTES, Tape.BOOLEANS) || n > MOST_ITEMS) {
            return BAD;
        }
        if (n < 0) {
            return SIZE;
        }
        tapes[tape].becomes(sort, n);
        return 1;
    }

    public int item(int tape, int i, long v) {
        if (!isTape(tape)) {
            return NONE;
        }
        Tape one = tapes[tape];
        if (one.sort == Tape.NO_SORT) {
            return NOTHING;
        }
        if (!within(i, 0, one.size - 1)) {
            return PLACE;
        }
        one.items[i] = one.asItem(v);
        return 1;
    }

    public long read(int tape, int i) {
        if (!isTape(tape) || !within(i, 0, tapes[tape].size - 1)) {
            return NO;
        }
        return tapes[tape].items[i];
    }

    public int shift(int tape, int i, int other, int j, int n) {
        if (!isTape(tape) || !isTape(other)) {
            return NONE;
        }
        Tape from = tapes[tape];
        Tape to = tapes[other];
        if (from.sort == Tape.NO_SORT || to.sort == Tape.NO_SORT) {
            return NOTHING;
        }
        if (from.sort != to.sort) {
            return CAST;
        }
        if (!from.holds(i, n) || !to.holds(j, n)) {
            return PLACE;
        }
        System.arraycopy(from.items, i, to.items, j, n);
        return n;
    }

    private boolean isMourner(int mourner) {
        return within(mourner, 0, now.count - 1);
    }

    private static boolean isTape(int tape) {
        return within(tape, 0, TAPES - 1);
    }

    private static boolean within(int n, int least, int most) {
        return n >= least && n <= most;
    }

    /** NONE above MOURNER. */
    private static int kindAbove(int kind) {
        return within(kind, MOURNER, TOLD) ? ABOVE[kind] : NONE;
    }

    private static int bit(boolean is) {
        return is ? 1 : 0;
    }

    /** What is above (part 0) or below the line, once it is in lowest terms. */
    private static long inLowestTerms(long above, long below, int part) {
        long divisor = commonDivisor(above, below);
        if (divisor == 0) {
            return NO;
        }
        return (part == 0 ? above : below) / divisor;
    }

    private static long commonDivisor(long one, long other) {
        // Euclid's steps on longs are fewer than 100
        for (int left = 100; left > 0 && other != 0; left--) {
            long rest = one % other;
            one = other;
            other = rest;
        }
        return one;
    }

    private static final class Mourner {
        private final int number;
        private int kind, v, grief, waited, hurt;
        private boolean done;
        private final int[] row = new int[PARTS];

        private Mourner(int number) {
            this.number = number;
        }

        /** All is set anew, as the place may have been another's ahead of an undo. */
        private void comes(int newKind, int newV, int newGrief) {
            kind = newKind;
            v = newV;
            grief = newGrief;
            waited = 0;
            hurt = 0;
            done = false;
            for (int part = 0; part < PARTS; part++) {
                row[part] = 0;
            }
        }

        private void becomes(Mourner other) {
            kind = other.kind;
            v = other.v;
            grief = other.grief;
            waited = other.waited;
            hurt = other.hurt;
            done = other.done;
            for (int part = 0; part < PARTS; part++) {
                row[part] = other.row[part];
            }
        }

        /** PAIN by its KIND; below 0 it is none. */
        private int painBy(int sum, int day, int waitedThen) {
            switch (kind) {
                case BROODER: return sum + waitedThen;
                case MENDER: return sum - waitedThen;
                case SAVER: return saved(sum, waitedThen);
                case MOTHER: return sum + waitedThen + v;
                case CHILD: return day % 2 == 0 ? sum - waitedThen : 0;
                case TOLD: return saved(sum, waitedThen) + row[Math.floorMod(day, PARTS)];
                default: return sum;
            }
        }

        private int saved(int sum, int waitedThen) {
            return waitedThen < v ? sum / 2 : sum * 2;
        }
    }

    /** How all is: what THE IMAGE keeps, and what goes on when something is asked. */
    private static final class Mourning {
        private final Mourner[] mourners = new Mourner[MOST_MOURNERS];
        private int count;
        private final int[] list = new int[MOST_MOURNERS];
        private int listed;
        private int day;
        private Island island;
        private final Notes seen = new Notes(MOST_SEEN);
        private final Notes plan = new Notes(MOST_PLAN);
        private final Notes book = new Notes(MOST_BOOK);

        private Mourning(Island island) {
            this.island = island;
            for (int p = 0; p < MOST_MOURNERS; p++) {
                mourners[p] = new Mourner(p);
            }
        }

        private void becomes(Mourning other) {
            count = other.count;
            for (int p = 0; p < count; p++) {
                mourners[p].becomes(other.mourners[p]);
            }
            listed = other.listed;
            for (int place = 0; place < listed; place++) {
                list[place] = other.list[place];
            }
            day = other.day;
            island = other.island;
            seen.becomes(other.seen);
            plan.becomes(other.plan);
            book.becomes(other.book);
        }

        private int placeOf(int mourner) {
            for (int place = 0; place < listed; place++) {
                if (list[place] == mourner) {
                    return place;
                }
            }
            return NOBODY;
        }

        private boolean isLost(int on) {
            return island.lost > 1 && (on + 1) % island.lost == 0;
        }

        private boolean isLeft(int mourner) {
            return mourner >= 0 && mourner < count && !mourners[mourner].done;
        }

        private int hasDay() {
            for (int place = 0; place < listed && !isLost(day); place++) {
                if (isLeft(list[place])) {
                    return list[place];
                }
            }
            return NOBODY;
        }

        private int hurtOfAll() {
            int hurt = 0;
            for (int p = 0; p < count; p++) {
                hurt += mourners[p].hurt;
            }
            return hurt;
        }

        private int howManyDone() {
            int many = 0;
            for (int p = 0; p < count; p++) {
                many += bit(mourners[p].done);
            }
            return many;
        }

        /** PAIN of one so many DAYS from now, if it is not DONE by then. */
        private int painOf(Mourner one, int days) {
            int waited = Math.min(MOST_WAITED, one.waited + days);
            return Math.max(0, one.painBy(island.sum(one, day + days, waited), day + days, waited));
        }

        private void go(int days, int mostHurt) {
            for (int d = 0; d < days; d++) {
                int having = hasDay();
                for (int p = 0; p < count; p++) {
                    Mourner one = mourners[p];
                    if (p == having) {
                        one.done = true;
                    } else if (!one.done) {
                        one.hurt = Math.min(mostHurt, one.hurt + painOf(one, 0));
                        one.waited = Math.min(MOST_WAITED, one.waited + 1);
                    }
                }
                day++;
            }
        }

        private void goByPlan() {
            for (int r = 0; r < plan.size; r++) {
                int what = plan.first[r];
                int mourner = plan.second[r];
                if (what == 0) {
                    go(1, NO_MOST);
                } else if (within(mourner, 0, count - 1)) {
                    Mourner one = mourners[mourner];
                    if (what == 3) {
                        one.grief = Math.min(MOST_GRIEF, one.grief + 10);
                    } else {
                        one.done = what == 1;
                    }
                }
            }
        }

        private boolean isAsSeen(Mourner one) {
            for (int r = 0; r < seen.size; r++) {
                if (seen.first[r] == one.number && painOf(one, seen.third[r]) != seen.second[r]) {
                    return false;
                }
            }
            return true;
        }
    }

    /** Rows told by hand, of up to three numbers each. */
    private static final class Notes {
        private final int[] first, second, third;
        private int size;

        private Notes(int most) {
            first = new int[most];
            second = new int[most];
            third = new int[most];
        }

        private int add(int a, int b, int c) {
            if (size >= first.length) {
                return FULL;
            }
            first[size] = a;
            second[size] = b;
            third[size] = c;
            size++;
            return size;
        }

        private void becomes(Notes other) {
            size = Math.min(first.length, other.size);
            for (int r = 0; r < size; r++) {
                first[r] = other.first[r];
                second[r] = other.second[r];
                third[r] = other.third[r];
            }
        }
    }

    /** CLAUSES as they were read; a new one has none. Each E is kept with its signs behind what they join. */
    private static final class Island {
        private static final int NOT = -1, AND = -2, OR = -3;

        private final int[] codes = new int[MOST_TEXT];
        private int size;
        private final int[] more = new int[MOST_CLAUSES];
        private final int[] ends = new int[MOST_CLAUSES];
        private int clauses;
        private int lost;
        private final int[] values = new int[Reader.LETTERS.length()];

        private void clear() {
            size = 0;
            clauses = 0;
            lost = 0;
        }

        private void put(int code) {
            if (size < MOST_TEXT) {
                codes[size] = code;
                size++;
            }
        }

        /** What was put since the last clause is its E. */
        private void endClause(int n) {
            if (clauses < MOST_CLAUSES) {
                more[clauses] = n;
                ends[clauses] = size;
                clauses++;
            }
        }

        private int sum(Mourner one, int day, int waited) {
            values[0] = one.number;
            values[1] = one.kind;
            values[2] = one.v;
            values[3] = one.grief / 10;
            values[4] = waited;
            values[5] = day % 10;
            int sum = one.grief;
            int from = 0;
            for (int c = 0; c < clauses; c++) {
                if (isSo(from, ends[c])) {
                    sum += more[c];
                }
                from = ends[c];
            }
            return sum;
        }

        /** Whether an E holds; what waits to be joined stands in bits, which are few, as few ( are open at once. */
        private boolean isSo(int from, int to) {
            int bits = 0;
            for (int c = from; c < to; c++) {
                int code = codes[c];
                int last = bits & 1;
                if (code == NOT) {
                    bits ^= 1;
                } else if (code == AND) {
                    bits = (bits >>> 1) & (~1 | last);
                } else if (code == OR) {
                    bits = (bits >>> 1) | last;
                } else {
                    bits = (bits << 1) | bit(isTestSo(code));
                }
            }
            return (bits & 1) == 1;
        }

        private static int testCode(int letter, int sign, int number) {
            return (letter * 3 + sign) * 100 + number;
        }

        private boolean isTestSo(int code) {
            int letter = code / 300;
            int sign = code / 100 % 3;
            if (letter < 0 || letter >= values.length) {
                return false;
            }
            int value = values[letter];
            int number = code % 100;
            return sign == 0 ? value < number : sign == 1 ? value == number : value > number;
        }
    }

    /** Reads THE TEXT; as it looks at one byte at a time, and only goes on by one that fits, it stops at the FAULT. */
    private static final class Reader {
        private static final String LETTERS = "pkvgwd", SIGNS = "<=>";
        private static final int END = -1;

        private final byte[] text = new byte[MOST_TEXT];
        private int size;
        private int at;
        private boolean faulty;

        private boolean reads(Island island) {
            island.clear();
            at = 0;
            faulty = false;
            clause(island);
            for (int clauses = 1; clauses < MOST_CLAUSES && next() == ';'; clauses++) {
                at++;
                clause(island);
            }
            return !faulty && at == size;
        }

        private void clause(Island island) {
            boolean aches = next() == 'a';
            boolean calms = next() == 'c';
            take(aches ? "ache " : calms ? "calm " : "lost ");
            int n = number();
            if (aches || calms) {
                take(" ");
                either(island, 0);
                island.endClause(aches ? n : -n);
            } else {
                island.lost = n;
            }
        }

        /** An E within so many open ( and !. */
        private void either(Island island, int open) {
            one(island, open);
            boolean joins = false;
            for (int left = MOST_TEXT; left > 0 && (next() == '&' || next() == '|'); left--) {
                boolean both = next() == '&';
                at++;
                if (joins && !both) {
                    island.put(Island.OR);
                }
                joins = joins || !both;
                one(island, open);
                if (both) {
                    island.put(Island.AND);
                }
            }
            if (joins) {
                island.put(Island.OR);
            }
        }

        /** An F within so many open ( and !. */
        private void one(Island island, int open) {
            if (next() == '!' && open < MOST_OPEN) {
                at++;
                one(island, open + 1);
                island.put(Island.NOT);
            } else if (next() == '(' && open < MOST_OPEN) {
                at++;
                either(island, open + 1);
                take(")");
            } else {
                int letter = oneOf(LETTERS);
                int sign = oneOf(SIGNS);
                island.put(Island.testCode(letter, sign, number()));
            }
        }

        private int number() {
            int n = 0;
            int digits = 0;
            while (digits < 2 && next() >= '0' && next() <= '9') {
                n = 10 * n + next() - '0';
                at++;
                digits++;
            }
            if (digits == 0) {
                faulty = true;
            }
            return n;
        }

        private int oneOf(String signs) {
            for (int s = 0; s < signs.length(); s++) {
                if (signs.charAt(s) == next()) {
                    at++;
                    return s;
                }
            }
            faulty = true;
            return 0;
        }

        private void take(String signs) {
            for (int s = 0; s < signs.length() && !faulty; s++) {
                if (signs.charAt(s) == next()) {
                    at++;
                } else {
                    faulty = true;
                }
            }
        }

        /** Behind a FAULT nothing comes, so that nothing more is read. */
        private int next() {
            return !faulty && at < size && at < MOST_TEXT ? text[at] : END;
        }
    }

    /** All ROWS of who is not DONE, walked through in the order of their numbers. */
    private static final class Rows {
        private static final int MOST_ROWS = 720;

        /** At 6 p + j: what p HURTS, if it has the j-th DAY that is not LOST. */
        private final int[] hurts = new int[MOST_MOURNERS * MOST_MOURNERS];
        private final int[] row = new int[MOST_MOURNERS];
        private int size;
        private final int[] least = new int[MOST_MOURNERS];
        private final int[] fair = new int[MOST_MOURNERS];
        private int leastHurt, fairHurt;
        private int walked, upToQ;
        private long together;

        private void walk(Mourning all, int q) {
            weigh(all);
            start(all);
            leastHurt = NO_MOST;
            fairHurt = NO_MOST;
            walked = 0;
            upToQ = 0;
            together = 0;
            boolean more = true;
            for (int left = MOST_ROWS; left > 0 && more; left--) {
                look(q);
                more = goToNext();
            }
        }

        /** The first ROW. */
        private void start(Mourning all) {
            size = 0;
            for (int p = 0; p < all.count; p++) {
                if (all.isLeft(p)) {
                    row[size] = p;
                    size++;
                }
            }
        }

        /** What each HURTS by each place. */
        private void weigh(Mourning all) {
            for (int p = 0; p < all.count; p++) {
                int hurt = 0;
                int place = 0;
                // at most every other DAY is LOST
                for (int days = 0; days < 2 * MOST_MOURNERS && place < MOST_MOURNERS; days++) {
                    if (!all.isLost(all.day + days)) {
                        hurts[MOST_MOURNERS * p + place] = hurt;
                        place++;
                    }
                    hurt += all.painOf(all.mourners[p], days);
                }
            }
        }

        private void look(int q) {
            int hurt = 0;
            int most = 0;
            for (int place = 0; place < size; place++) {
                int one = hurtsAt(row[place], place);
                hurt += one;
                most = Math.max(most, one);
            }
            walked++;
            together += hurt;
            if (hurt <= q) {
                upToQ++;
            }
            if (hurt < leastHurt) {
                leastHurt = hurt;
                System.arraycopy(row, 0, least, 0, size);
            }
            if (most < fairHurt) {
                fairHurt = most;
                System.arraycopy(row, 0, fair, 0, size);
            }
        }

        private int hurtsAt(int mourner, int place) {
            int at = MOST_MOURNERS * mourner + place;
            return at >= 0 && at < hurts.length ? hurts[at] : 0;
        }

        /** The next ROW in the order of their numbers, or none. */
        private boolean goToNext() {
            int rises = size - 2;
            while (rises >= 0 && row[rises] > row[rises + 1]) {
                rises--;
            }
            if (rises < 0) {
                return false;
            }
            int greater = size - 1;
            while (greater > rises && row[greater] < row[rises]) {
                greater--;
            }
            change(rises, greater);
            int last = size - 1;
            for (int place = rises + 1; place < last; place++) {
                change(place, last);
                last--;
            }
            return true;
        }

        private void change(int place, int other) {
            int was = row[place];
            row[place] = row[other];
            row[other] = was;
        }

        private int agreed(Mourning all) {
            weigh(all);
            size = 0;
            for (int place = 0; place < all.listed; place++) {
                if (all.isLeft(all.list[place])) {
                    row[size] = all.list[place];
                    size++;
                }
            }
            for (int place = 0; place < size; place++) {
                for (int later = place + 1; later < size; later++) {
                    if (agree(place, later)) {
                        return 10 * Math.min(row[place], row[later]) + Math.max(row[place], row[later]);
                    }
                }
            }
            return NOBODY;
        }

        private boolean agree(int place, int other) {
            int one = hurtsAt(row[place], other) - hurtsAt(row[place], place);
            int two = hurtsAt(row[other], place) - hurtsAt(row[other], other);
            return one <= 0 && two <= 0 && (one < 0 || two < 0);
        }

        /** DEAR, or by how much it is. */
        private int dear(Mourning all, boolean byHowMuch) {
            weigh(all);
            start(all);
            int dear = NOBODY;
            int much = NOBODY;
            for (int place = 0; place < size; place++) {
                int less = hurtsAt(row[place], size - 1) - hurtsAt(row[place], 0);
                if (less > much) {
                    dear = row[place];
                    much = less;
                }
            }
            return byHowMuch ? much : dear;
        }
    }

    private static final class Acts {
        private static final int WEEPS = 0, WAITS = 1, TELLS = 2;
        /** By KIND and act, the number of the body that stands there; 0: none. */
        private static final int[] BODIES = {
            10, 11, 12,
            0, 20, 0,
            30, 0, 0,
            0, 0, 40,
            50, 51, 0,
            0, 0, 60,
            71, 70, 0,
        };
        /** No KIND's bodies go so deep. */
        private static final int MOST_DEEP = 20;

        private final int[] kept = new int[MOST_TRACE];
        private int ran;

        /** The body of a KIND, or of the next one above that has one, run on one with x. */
        private int body(Mourner one, int kind, int act, int x, int deep) {
            if (deep > MOST_DEEP) {
                return 0;
            }
            int next = deep + 1;
            int number = bodyOf(kind, act);
            begins(number);
            switch (number) {
                case 10: return x + one.number;
                case 11: return body(one, one.kind, WEEPS, x, next) - one.v;
                case 12: return body(one, one.kind, WAITS, x, next) * 2;
                case 20: return body(one, ABOVE[BROODER], WAITS, x, next) ^ 6;
                case 30: return body(one, ABOVE[MENDER], WEEPS, x * 3, next);
                case 40: return body(one, ABOVE[SAVER], TELLS, x, next) + body(one, one.kind, WAITS, 1, next);
                case 50: return -body(one, ABOVE[MOTHER], WEEPS, x, next);
                case 51: return body(one, ABOVE[MOTHER], WAITS, x + 1, next);
                case 60: return body(one, ABOVE[CHILD], TELLS, x - one.number, next);
                case 70: return body(one, ABOVE[TOLD], WAITS, x, next) + body(one, ABOVE[TOLD], WEEPS, 2, next);
                case 71: return body(one, ABOVE[TOLD], WEEPS, x, next) ^ one.v;
                default: return 0;
            }
        }

        private static int bodyOf(int kind, int act) {
            int from = kind;
            for (int left = ABOVE.length; left > 0; left--) {
                int at = 3 * from + act;
                if (at >= 0 && at < BODIES.length && BODIES[at] != 0) {
                    return BODIES[at];
                }
                from = kindAbove(from);
            }
            return 0;
        }

        private void begins(int number) {
            if (ran < MOST_TRACE) {
                kept[ran] = number;
            }
            ran++;
        }
    }

    private static final class Tape {
        private static final int NO_SORT = -1, BYTES = 0, SHORTS = 1, INTS = 2, LONGS = 3, BOOLEANS = 4;

        private int sort = NO_SORT;
        private int size;
        private final long[] items = new long[MOST_ITEMS];

        private void becomes(int newSort, int newSize) {
            sort = newSort;
            size = newSize;
            for (int i = 0; i < MOST_ITEMS; i++) {
                items[i] = 0;
            }
        }

        private long asItem(long v) {
            switch (sort) {
                case BYTES: return (byte) v;
                case SHORTS: return (short) v;
                case INTS: return (int) v;
                case LONGS: return v;
                default: return bit(v != 0);
            }
        }

        /** Whether n items stand here from i on; i + n may wrap, so it is not asked for. */
        private boolean holds(int i, int n) {
            return within(n, 0, size) && within(i, 0, size - n);
        }
    }
}
