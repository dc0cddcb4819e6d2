/** The sentences of promises 26 to 31, and of the terms on ACTS and THE IMAGE, that name a bound. */
public final class ActsBoundsTest {
    private static final int LEAST = Integer.MIN_VALUE, MOST = Integer.MAX_VALUE;

    public static void main(String[] args) {
        noImage();
        imageOfNobody();
        imageOfMost();
        imageOfIsland();
        undoTwice();
        acts();
        bodiesAbove();
        wraps();
        noActs();
        trace();
        taken();
        takenRefuses();
        countAtFirst();
        countOfMost();
        countRefuses();
        Due.end();
    }

    private static void noImage() {
        Due.says("Promise 27", "STATE: there is none.");
        Due.due("a new object", new OneMourner().undo(), -3);
        OneMourner x = Made.of(0, 0, 5);
        x.pass(3);
        Due.due("undo", x.undo(), -3);
        Due.due("day", x.told(0), 3);
        Due.due("mourners", x.count(0), 1);
        Due.due("image", x.image(), 1);
        Due.due("undo then", x.undo(), 1);
    }

    private static void imageOfNobody() {
        Due.says("Promise 26", "THE IMAGE is taken: how many MOURNERS there are.");
        OneMourner x = new OneMourner();
        Due.due("image", x.image(), 0);
        Due.says("Promise 27", "All is as THE IMAGE: how many MOURNERS.");
        x.mourner(6, 5, 50);
        for (int part = 0; part < 4; part++) {
            x.row(0, part, 7);
        }
        x.set(0, 1, 8);
        x.set(0, 2, 9);
        x.done(0, true);
        x.list(0);
        x.see(0, 1, 1);
        x.plan(1, 0);
        x.book(0, 1);
        x.pass(2);
        Due.due("undo", x.undo(), 0);
        Due.row("counts", new long[] {x.count(0), x.count(2), x.count(3), x.count(4), x.count(5)}, 0, 0, 0, 0, 0);
        Due.row("told", new long[] {x.told(0), x.told(3), x.told(4), x.told(5)}, 0, 0, 0, -5);
        Due.due("of nobody", x.of(0, 0), -1);
        Due.due("empty", x.empty(), 0);
        Due.due("who comes then", x.mourner(6, 1, 2), 0);
        Due.row("is new", new long[] {x.of(0, 1), x.of(0, 2), x.of(0, 3), x.of(0, 4), x.of(0, 5), x.of(0, 6)},
            1, 2, 0, 0, 0, -5);
        for (int part = 0; part < 4; part++) {
            Due.due("and its row", x.row(0, part, 0), 0);
        }
    }

    private static void imageOfMost() {
        Due.says("2", "THE IMAGE: MOURNERS with all that is theirs, THE LIST, DAY, SEEN, the PLAN, the BOOK, which ISLAND"
            + " holds.");
        OneMourner x = Made.onDay(60, 6, 9, 99, 6, 8, 98, 6, 7, 97, 6, 6, 96, 6, 5, 95, 6, 4, 94);
        most(x);
        Due.due("image", x.image(), 6);
        long[] was = looks(x);
        for (int times = 0; times < 2; times++) {
            changeMost(x);
            Due.due("undo", x.undo(), 6);
            Due.row("all", looks(x), was);
        }
    }

    private static void changeMost(OneMourner x) {
        x.list(-1);
        Made.list(x, 0, 1, 2);
        for (int p = 0; p < 6; p++) {
            x.set(p, 0, p);
            x.set(p, 1, p);
            x.set(p, 2, p);
            x.done(p, p % 2 == 0);
            for (int part = 0; part < 4; part++) {
                x.row(p, part, 0);
            }
        }
        x.see(-1, 0, 0);
        x.plan(-1, 0);
        x.book(-1, 0);
        x.see(2, 3, 4);
        x.plan(3, 5);
        x.book(4, 5);
        x.pass(60);
    }

    /** As much of all as there can be. */
    private static void most(OneMourner x) {
        Made.list(x, 5, 3, 1, 0, 2, 4);
        for (int p = 0; p < 6; p++) {
            x.set(p, 1, 99 - p);
            x.set(p, 2, 99999 - p);
            x.done(p, p % 2 == 1);
            for (int part = 0; part < 4; part++) {
                x.row(p, part, 9 - part - p);
            }
        }
        x.see(0, 198 + 9, 0);
        for (int i = 1; i < 5; i++) {
            x.see(i, 0, 20);
        }
        for (int row = 0; row < 9; row++) {
            x.plan(row % 4, row % 6);
        }
        x.plan(0, 0);
        for (int row = 0; row < 8; row++) {
            x.book(row % 6, row < 7 ? 99999 - row % 6 : 0);
        }
    }

    private static long[] looks(OneMourner x) {
        long[] looks = new long[64];
        for (int i = 0; i < 48; i++) {
            looks[i] = x.of(i / 8, i % 8);
        }
        for (int what = 2; what <= 5; what++) {
            looks[46 + what] = x.count(what);
        }
        looks[52] = x.told(0);
        looks[53] = x.told(5);
        looks[54] = x.looked();
        looks[55] = x.ends(0);
        looks[56] = x.ends(1);
        looks[57] = x.on(1, 0);
        looks[58] = x.on(2, 0);
        looks[59] = x.on(3, 0);
        looks[60] = x.on(4, 0);
        looks[61] = x.can(0, 0, 0);
        looks[62] = x.can(0, 0, 1);
        looks[63] = x.can(4, 0, 0);
        return looks;
    }

    private static void imageOfIsland() {
        Due.says("2", "which ISLAND holds");
        OneMourner x = Made.of(0, 0, 10);
        x.image();
        Due.island(x, "lost 9;ache 5 p=0", 0);
        x.undo();
        Due.due("none held", x.of(0, 7), 10);
        Due.due("none had lost", x.told(1), 0);
        Due.island(x, "ache 6 p=0", 1);
        x.image();
        Due.island(x, "lost 3", 2);
        x.undo();
        Due.due("the second held", x.of(0, 7), 16);
        Due.island(x, "lost 3;", -17);
        x.undo();
        Due.due("the second holds on", x.of(0, 7), 16);
        for (int i = 3; i < 6; i++) {
            Due.island(x, "lost " + i, i);
            x.undo();
        }
        Due.due("six islands there were", x.count(1), 6);
        Due.due("the second holds on", x.of(0, 7), 16);
        Due.feed(x, "lost 2");
        Due.due("full, as undo takes none away", x.island(), -4);
        Due.due("undo", x.undo(), 1);
        Due.due("the text is not in the image", x.count(6), 6);
    }

    private static void undoTwice() {
        Due.says("Promise 27", "All is as THE IMAGE: how many MOURNERS.");
        OneMourner x = Made.of(0, 0, 10);
        x.image();
        for (int times = 0; times < 3; times++) {
            x.mourner(1, 2, 3);
            x.set(0, 0, 50 + times);
            Due.due("undo", x.undo(), 1);
            Due.due("grief", x.of(0, 2), 10);
            Due.due("mourners", x.count(0), 1);
        }
        x.mourner(1, 2, 3);
        Due.due("the newest image", x.image(), 2);
        x.list(1);
        x.list(0);
        Due.due("undo", x.undo(), 2);
        Due.due("listed", x.count(2), 0);
        x.list(0);
        Due.due("undo straight on", x.undo() + x.undo(), 4);
    }

    private static void act(OneMourner x, int mourner, int act, int arg, long want, int... trace) {
        String call = "act(" + mourner + ", " + act + ", " + arg + ")";
        Due.due(call, x.act(mourner, act, arg), want);
        Due.due(call + ", ran", x.count(7), trace.length);
        for (int i = 0; i < trace.length; i++) {
            Due.due(call + ", trace " + i, x.trace(i), trace[i]);
        }
        Due.due(call + ", behind the trace", x.trace(trace.length), -1);
    }

    private static void acts() {
        Due.says("2", "ACTS of a MOURNER with x (wrapping): 0 weeps, 1 waits, 2 tells; i its number.");
        OneMourner x = Made.of(0, 9, 0, 1, 9, 0, 2, 9, 0, 3, 9, 0, 4, 9, 0, 6, 9, 0);
        act(x, 0, 0, 0, 0, 10);
        act(x, 0, 1, 0, -9, 11, 10);
        act(x, 0, 2, 0, -18, 12, 11, 10);
        act(x, 1, 1, 0, -8 ^ 6, 20, 11, 10);
        act(x, 2, 0, -1, -1, 30, 10);
        act(x, 3, 2, 0, 2 * (3 - 9) + (4 - 9), 40, 12, 11, 10, 11, 10);
        act(x, 4, 0, -4, 0, 50, 10);
        act(x, 4, 1, -5, (0 - 9) ^ 6, 51, 20, 11, 50, 10);
        int weeps0 = 5 ^ 9;
        int waits0 = weeps0 - 9 + 7;
        int waits1 = (6 ^ 9) - 9 + 7;
        act(x, 5, 0, 0, weeps0, 71, 10);
        act(x, 5, 1, 0, waits0, 70, 11, 71, 10, 10);
        act(x, 5, 2, 0, 2 * waits0 + waits1, 40, 12, 70, 11, 71, 10, 10, 70, 11, 71, 10, 10);
        OneMourner y = Made.of(0, 0, 0, 5, 9, 0);
        act(y, 1, 2, 1, 2 * (0 * 3 + 1 - 9), 60, 12, 11, 30, 10);
    }

    private static void bodiesAbove() {
        Due.says("2", "the body of its KIND, or, if that has none, of the next KIND above that has one");
        int[][] weeps = {{10}, {10}, {30, 10}, {10}, {50, 10}, {30, 10}, {71, 10}};
        int[][] waits = {{11, 10}, {20, 11, 10}, {11, 30, 10}, {11, 10}, {51, 20, 11, 50, 10}, {11, 30, 10},
            {70, 11, 71, 10, 10}};
        int[][] tells = {{12, 11, 10}, {12, 20, 11, 10}, {12, 11, 30, 10}, {40, 12, 11, 10, 11, 10},
            {12, 51, 20, 11, 50, 10}, {60, 12, 11, 30, 10}, {40, 12, 70, 11, 71, 10, 10, 70, 11, 71, 10, 10}};
        for (int kind = 0; kind <= 6; kind++) {
            // v and i are 0: weeps of 4 is 4, 12 by a mender, -4 by a mother
            OneMourner x = Made.of(kind, 0, 0);
            int weeps4 = kind == 2 || kind == 5 ? 12 : kind == 4 ? -4 : 4;
            int[] waits4 = {4, 4 ^ 6, 12, 4, -5 ^ 6, 12, 6};
            int[] waits1 = {0, 0, 0, 1, 0, 0, 3};
            act(x, 0, 0, 4, weeps4, weeps[kind]);
            act(x, 0, 1, 4, waits4[kind], waits[kind]);
            act(x, 0, 2, 4, 2 * waits4[kind] + waits1[kind], tells[kind]);
        }
    }

    private static void wraps() {
        Due.says("2", "ACTS of a MOURNER with x (wrapping)");
        OneMourner x = Made.of(0, 9, 0, 0, 9, 0, 2, 0, 0, 4, 0, 0, 4, 0, 0, 5, 9, 0);
        act(x, 1, 0, MOST, LEAST, 10);
        act(x, 0, 1, LEAST, MOST - 8, 11, 10);
        act(x, 0, 2, MOST, -20, 12, 11, 10);
        act(x, 2, 0, MOST, MOST, 30, 10);
        act(x, 2, 0, LEAST, LEAST + 2, 30, 10);
        act(x, 2, 0, 715827883, LEAST + 3, 30, 10);
        // LEAST less 4 and 4 is LEAST, and less LEAST is LEAST
        act(x, 4, 0, LEAST - 4, LEAST, 50, 10);
        act(x, 3, 1, MOST, (MOST - 2) ^ 6, 51, 20, 11, 50, 10);
        // LEAST less 5 is MOST - 4; three times that is MOST - 14; 5 more, less 9, twice: -38
        act(x, 5, 2, LEAST, -38, 60, 12, 11, 30, 10);
        OneMourner y = Made.of(3, 1, 0, 6, 1, 0);
        act(y, 0, 2, LEAST, -2, 40, 12, 11, 10, 11, 10);
        // weeps of MOST: (MOST + 1) ^ 1 is LEAST + 1; less v, and weeps of 2 by MOURNER: LEAST + 3
        act(y, 1, 1, MOST, LEAST + 3, 70, 11, 71, 10, 10);
    }

    private static void noActs() {
        Due.says("Promise 28", "0, and no TRACE then: no such MOURNER, act.");
        OneMourner x = Made.of(0, 1, 0);
        for (int p : Made.beyond(0, 0)) {
            act(x, 0, 2, 5, 8, 12, 11, 10);
            act(x, p, 0, 5, 0);
        }
        for (int act : Made.beyond(0, 2)) {
            act(x, 0, 2, 5, 8, 12, 11, 10);
            act(x, 0, act, 5, 0);
        }
        act(new OneMourner(), 0, 0, 5, 0);
    }

    private static void trace() {
        Due.says("Promise 29", "THE TRACE's i-th body. NONE.");
        OneMourner x = Made.of(0, 0, 0, 6, 0, 0);
        Due.due("without an act", x.trace(0), -1);
        x.act(1, 2, 0);
        Due.due("the first", x.trace(0), 40);
        Due.due("the last", x.trace(11), 10);
        for (int i : Made.beyond(0, 11)) {
            Due.due("trace " + i, x.trace(i), -1);
        }
        for (int i = 12; i < 22; i++) {
            Due.due("trace " + i, x.trace(i), -1);
        }
        Due.says("2", "the numbers of the bodies that ran in the latest act()");
        x.act(0, 0, 0);
        Due.due("of the latest", x.trace(0), 10);
        Due.due("no more of the one ahead of it", x.trace(1), -1);
        x.of(0, 0);
        x.pass(1);
        Due.due("other calls leave it", x.trace(0), 10);
    }

    private static void taken() {
        Due.says("Promise 30", "A MOURNER taken for one of KIND k (0 .. 6), or one under that: its KIND.");
        String[] under = {"0", "01", "02", "03", "014", "025", "036"};
        for (int kind = 0; kind <= 6; kind++) {
            OneMourner x = Made.of(kind, 0, 0);
            for (int k = 0; k <= 6; k++) {
                boolean is = under[kind].indexOf((char) ('0' + k)) >= 0;
                Due.due("kind " + kind + " for " + k, x.taken(0, k), is ? kind : -12);
            }
        }
    }

    private static void takenRefuses() {
        Due.says("Promise 30", "BAD: k; NOTHING: no such MOURNER; CAST.");
        OneMourner x = Made.of(0, 0, 0, 4, 0, 0);
        for (int k : Made.beyond(0, 6)) {
            Due.due("k " + k, x.taken(1, k), -2);
            Due.due("k " + k + " ahead of nobody", x.taken(2, k), -2);
        }
        for (int p : Made.beyond(0, 1)) {
            Due.due("taken of " + p, x.taken(p, 0), -11);
            Due.due("taken of " + p + " for another kind", x.taken(p, 6), -11);
        }
        Due.due("taken of nobody", new OneMourner().taken(0, 0), -11);
        Due.due("a mourner for a brooder", x.taken(0, 1), -12);
        Due.due("a mother for a child", x.taken(1, 5), -12);
    }

    private static void countAtFirst() {
        Due.says("Promise 31", "7 bodies that ran in the latest act() (all, kept or not)");
        OneMourner x = Made.of(6, 0, 0);
        Due.due("without an act", x.count(7), 0);
        x.act(0, 2, 0);
        Due.due("the most", x.count(7), 12);
        x.act(0, 0, 0);
        Due.due("fewer", x.count(7), 2);
        x.act(0, 3, 0);
        Due.due("none", x.count(7), 0);
        Due.says("Promise 31", "How many: 0 MOURNERS, 1 ISLANDS, 2 on THE LIST, 3 SEEN, 4 of the PLAN, 5 of the BOOK, 6 bytes"
            + " of THE TEXT");
        for (int what = 0; what <= 7; what++) {
            Due.due("none of " + what, new OneMourner().count(what), 0);
        }
    }

    private static void countOfMost() {
        Due.says("Promise 31", "How many: 0 MOURNERS, 1 ISLANDS, 2 on THE LIST, 3 SEEN, 4 of the PLAN, 5 of the BOOK, 6 bytes"
            + " of THE TEXT");
        OneMourner x = Made.many(6);
        Made.list(x, 0, 1, 2, 3, 4, 5);
        for (int i = 0; i < 12; i++) {
            x.see(0, 0, 0);
            x.plan(0, 0);
            x.book(0, 0);
            if (i < 7) {
                x.mourner(0, 0, 0);
                for (char sign : "lost 2".toCharArray()) {
                    x.feed(sign);
                }
                x.island();
            }
        }
        for (int i = 0; i < 99; i++) {
            x.feed(' ');
        }
        int[] most = {6, 6, 6, 5, 10, 8, 100};
        for (int what = 0; what < most.length; what++) {
            Due.due("the most of " + what, x.count(what), most[what]);
        }
    }

    private static void countRefuses() {
        Due.says("Promise 31", "BAD.");
        OneMourner x = Made.many(1);
        for (int what : Made.beyond(0, 7)) {
            Due.due("count of " + what, x.count(what), -2);
        }
    }
}
