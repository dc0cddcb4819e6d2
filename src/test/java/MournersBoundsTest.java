/** The sentences of promises 1 to 8, and of the terms on MOURNERS and THE LIST, that name a bound. */
public final class MournersBoundsTest {
    public static void main(String[] args) {
        newObject();
        atFirst();
        mourner();
        full();
        ofBounds();
        ofPlaces();
        ofPains();
        set();
        setRefuses();
        done();
        list();
        listRefuses();
        swap();
        swapRefuses();
        row();
        rowRefuses();
        Due.end();
    }

    private static void newObject() {
        Due.says("Promise 1", "No MOURNERS, no ISLAND.");
        OneMourner x = new OneMourner();
        Due.due("mourners", x.count(0), 0);
        Due.due("islands", x.count(1), 0);
        Due.due("of 0", x.of(0, 0), -1);
        Due.due("lost", x.told(1), 0);
        Due.due("the first mourner", x.mourner(0, 0, 0), 0);
        Due.island(x, "lost 2", 0);
        Due.due("another object has nobody", new OneMourner().count(0), 0);
        Due.says("The constants", "There is no such number.");
        Due.due("NO", OneMourner.NO, -9223372036854775807L - 1);
        Due.says("Answers", "NONE (-1) no such number; BAD (-2) a number is not as told; STATE (-3) as told; FULL (-4)");
        Due.row("constants",
            new long[] {OneMourner.NONE, OneMourner.BAD, OneMourner.STATE, OneMourner.FULL}, -1, -2, -3, -4);
    }

    private static void atFirst() {
        OneMourner x = Made.of(0, 3, 40, 6, 0, 0);
        Due.says("1 MOURNERS", "WAITED (0 .. 99; 0 at first)");
        Due.due("waited", x.of(0, 3), 0);
        Due.says("1 MOURNERS", "HURT (0 .. 99999; 0 at first)");
        Due.due("hurt", x.of(0, 4), 0);
        Due.says("1 MOURNERS", "DONE, or not (not at first)");
        Due.due("done", x.of(0, 5), 0);
        Due.says("1 MOURNERS", "none twice (empty at first)");
        Due.due("place", x.of(0, 6), -5);
        Due.due("listed", x.count(2), 0);
        Due.says("1 MOURNERS", "DAY: 0 at first.");
        Due.due("day", x.told(0), 0);
        Due.says("1 MOURNERS", "its ROW (four numbers 0 .. 9; 0 at first)");
        for (int part = 0; part < 4; part++) {
            Due.due("row at " + part, x.row(1, part, 9), 0);
        }
    }

    private static void mourner() {
        Due.says("1 MOURNERS", "are of KINDS: 0 MOURNER; 1 BROODER, 2 MENDER, 3 SAVER under MOURNER; 4 MOTHER under"
            + " BROODER; 5 CHILD under MENDER; 6 TOLD under SAVER");
        for (int kind = 0; kind <= 6; kind++) {
            Due.due("kind", Made.of(kind, 0, 0).of(0, 0), kind);
        }
        OneMourner x = new OneMourner();
        Due.says("Promise 2", "NONE: kind");
        for (int kind : Made.beyond(0, 6)) {
            Due.due("kind " + kind, x.mourner(kind, 0, 0), -1);
            Due.due("kind " + kind + " ahead of v and grief", x.mourner(kind, 10, 100), -1);
        }
        Due.says("Promise 2", "BAD: v, grief");
        for (int v : Made.beyond(0, 9)) {
            Due.due("v " + v, x.mourner(0, v, 0), -2);
        }
        for (int grief : Made.beyond(0, 99)) {
            Due.due("grief " + grief, x.mourner(6, 9, grief), -2);
        }
        Due.due("nobody came", x.count(0), 0);
        Due.says("1 MOURNERS", "with a number v (0 .. 9), GRIEF (0 .. 99)");
        Due.due("the least", x.mourner(0, 0, 0), 0);
        Due.due("the greatest", x.mourner(6, 9, 99), 1);
        Due.row("both", new long[] {x.of(0, 1), x.of(0, 2), x.of(1, 1), x.of(1, 2)}, 0, 0, 9, 99);
    }

    private static void full() {
        Due.says("1 MOURNERS", "MOURNERS 0 .. 5, as they come");
        OneMourner x = new OneMourner();
        for (int p = 0; p < 6; p++) {
            Due.due("mourner", x.mourner(p, p, p), p);
        }
        Due.says("Promise 2", "FULL: 6");
        Due.due("a seventh", x.mourner(0, 0, 0), -4);
        Due.due("six", x.count(0), 6);
        Due.due("the last is as it was", x.of(5, 0), 5);
        Due.due("kind ahead of full", x.mourner(7, 0, 0), -1);
        Due.due("v ahead of full", x.mourner(0, 10, 0), -2);
        Due.due("grief ahead of full", x.mourner(0, 0, -1), -2);
    }

    private static void ofBounds() {
        Due.says("Promise 3", "NONE.");
        Due.due("of nobody", new OneMourner().of(0, 0), -1);
        OneMourner x = Made.of(1, 2, 3, 4, 5, 6);
        for (int p : Made.beyond(0, 1)) {
            for (int what = 0; what <= 7; what++) {
                Due.due("of " + p, x.of(p, what), -1);
            }
        }
        for (int p = 2; p <= 6; p++) {
            Due.due("of " + p, x.of(p, 0), -1);
        }
        for (int what : Made.beyond(0, 7)) {
            Due.due("what " + what, x.of(1, what), -1);
        }
    }

    private static void ofPlaces() {
        Due.says("Promise 3", "6 its place on THE LIST (from 0 on; -5: none)");
        OneMourner x = Made.many(6);
        Due.due("of an empty list", x.of(0, 6), -5);
        Made.list(x, 5, 4, 3, 2, 1);
        for (int p = 1; p <= 5; p++) {
            Due.due("place of " + p, x.of(p, 6), 5 - p);
        }
        Due.due("off it", x.of(0, 6), -5);
        x.list(0);
        Due.due("the last", x.of(0, 6), 5);
        x.done(5, true);
        Due.due("done, but on it", x.of(5, 6), 0);
        x.list(-1);
        Due.due("of a list that is empty again", x.of(5, 6), -5);
    }

    private static void ofPains() {
        Due.says("Promise 3", "7 PAIN this DAY (DONE, too)");
        OneMourner x = Made.of(0, 0, 7, 5, 0, 8);
        x.done(0, true);
        x.done(1, true);
        Due.due("a mourner who is done", x.of(0, 7), 7);
        Due.due("a child who is done", x.of(1, 7), 8);
        x.pass(1);
        Due.due("a mourner who is done on day 1", x.of(0, 7), 7);
        Due.due("a child who is done on day 1", x.of(1, 7), 0);
        Due.due("who is done did not wait", x.of(1, 3), 0);
    }

    private static void set() {
        OneMourner x = Made.of(0, 0, 50, 0, 0, 50);
        int[] most = {99, 99, 99999};
        int[] first = {50, 0, 0};
        String[] says = {"0 GRIEF (0 .. 99)", "1 WAITED (0 .. 99)", "2 HURT (0 .. 99999) becomes n: what it was"};
        for (int what = 0; what < 3; what++) {
            Due.says("Promise 4", says[what]);
            Due.due("the most", x.set(0, what, most[what]), first[what]);
            for (int n : Made.beyond(0, most[what])) {
                Due.due("set to " + n, x.set(0, what, n), -2);
            }
            Due.due("it is the most", x.of(0, 2 + what), most[what]);
            Due.due("the least", x.set(0, what, 0), most[what]);
            Due.due("it is the least", x.of(0, 2 + what), 0);
            Due.due("the same", x.set(0, what, 0), 0);
            Due.due("another one's", x.of(1, 2 + what), first[what]);
        }
    }

    private static void setRefuses() {
        OneMourner x = Made.of(0, 0, 50, 0, 0, 50);
        Due.says("Promise 4", "NONE: mourner, what; BAD.");
        for (int p : Made.beyond(0, 1)) {
            Due.due("set of " + p, x.set(p, 0, 1), -1);
            Due.due("set of " + p + " ahead of n", x.set(p, 0, 100), -1);
        }
        Due.due("set of 2", x.set(2, 0, 1), -1);
        for (int what : Made.beyond(0, 2)) {
            Due.due("what " + what, x.set(0, what, 1), -1);
            Due.due("what " + what + " ahead of n", x.set(0, what, -1), -1);
        }
    }

    private static void done() {
        OneMourner x = Made.many(2);
        Due.says("Promise 5", "A MOURNER is DONE, or not: whether it was.");
        Due.due("not, and is not", x.done(1, false), 0);
        Due.due("is", x.done(1, true), 0);
        Due.due("is, and was", x.done(1, true), 1);
        Due.due("is not, but was", x.done(1, false), 1);
        Due.due("is not, and was not", x.done(1, false), 0);
        Due.due("another one", x.of(0, 5), 0);
        Due.says("Promise 5", "NONE.");
        for (int p : Made.beyond(0, 1)) {
            Due.due("done of " + p, x.done(p, true), -1);
        }
        Due.due("done of nobody", new OneMourner().done(0, true), -1);
    }

    private static void list() {
        Due.says("Promise 6", "(mourner -1: it is empty then, 0)");
        Due.due("of nobody", new OneMourner().list(-1), 0);
        OneMourner x = Made.many(6);
        Due.due("of an empty one", x.list(-1), 0);
        Due.says("Promise 6", "A MOURNER comes behind all on THE LIST: how many there are");
        Made.list(x, 3, 0, 5, 1, 4, 2);
        Due.row("places", new long[] {x.of(0, 6), x.of(1, 6), x.of(2, 6), x.of(3, 6), x.of(4, 6), x.of(5, 6)},
            1, 3, 5, 0, 4, 2);
        Due.says("Promise 6", "(mourner -1: it is empty then, 0)");
        Due.due("of six", x.list(-1), 0);
        Due.due("none", x.count(2), 0);
        Due.due("nobody has this day", x.told(5), -5);
        Due.due("again", x.list(2), 1);
        Due.due("who is done comes, too", x.done(4, true) + x.list(4), 2);
    }

    private static void listRefuses() {
        OneMourner x = Made.many(3);
        Due.says("Promise 6", "NONE; STATE: it is on it.");
        for (int p : Made.beyondButOne(2)) {
            Due.due("list of " + p, x.list(p), -1);
        }
        Due.due("list of nobody", new OneMourner().list(0), -1);
        Made.list(x, 1, 2, 0);
        for (int p = 0; p < 3; p++) {
            Due.due("list of one on it", x.list(p), -3);
        }
        Due.due("how many", x.count(2), 3);
    }

    private static void swap() {
        OneMourner x = Made.many(6);
        Made.list(x, 5, 3, 1, 0, 2, 4);
        Due.says("Promise 7", "Two have each other's place on THE LIST: that of the first.");
        Due.due("first and last", x.swap(5, 4), 5);
        Due.due("5", x.of(5, 6), 5);
        Due.due("4", x.of(4, 6), 0);
        Due.due("last and first", x.swap(5, 4), 0);
        Due.due("neighbours", x.swap(1, 3), 1);
        Due.row("places", new long[] {x.of(0, 6), x.of(1, 6), x.of(2, 6), x.of(3, 6), x.of(4, 6), x.of(5, 6)},
            3, 1, 4, 2, 5, 0);
    }

    private static void swapRefuses() {
        OneMourner x = Made.many(4);
        Due.says("Promise 7", "NONE; BAD: one is both; STATE: either is not on it.");
        Due.due("neither is on an empty list", x.swap(0, 1), -3);
        Made.list(x, 0, 1);
        for (int p : Made.beyond(0, 3)) {
            Due.due("swap of " + p, x.swap(p, 0), -1);
            Due.due("swap with " + p, x.swap(0, p), -1);
            Due.due("swap with nobody, ahead of both", x.swap(p, p), -1);
            Due.due("swap with nobody, ahead of who is off it", x.swap(2, p), -1);
        }
        Due.due("both", x.swap(1, 1), -2);
        Due.due("both, ahead of who is off it", x.swap(3, 3), -2);
        Due.due("the first is off it", x.swap(2, 0), -3);
        Due.due("the other is off it", x.swap(0, 2), -3);
        Due.due("neither is on it", x.swap(2, 3), -3);
        Due.row("places", new long[] {x.of(0, 6), x.of(1, 6), x.of(2, 6), x.of(3, 6)}, 0, 1, -5, -5);
    }

    private static void row() {
        OneMourner x = Made.of(6, 0, 0, 6, 0, 0);
        Due.says("Promise 8", "becomes n (0 .. 9) for DAYS modulo 4 being part: what it was.");
        for (int part = 0; part < 4; part++) {
            Due.due("the most", x.row(0, part, 9), 0);
            Due.due("the least", x.row(0, part, 0), 9);
            Due.due("the part", x.row(0, part, part + 2), 0);
        }
        for (int part = 0; part < 4; part++) {
            Due.due("another one's", x.row(1, part, 0), 0);
        }
        for (int day = 0; day < 9; day++) {
            Due.due("pain on day " + day, x.of(0, 7), day % 4 + 2);
            x.pass(1);
        }
    }

    private static void rowRefuses() {
        OneMourner x = Made.of(0, 0, 9, 1, 0, 9, 2, 0, 9, 3, 0, 9, 4, 0, 9, 6, 0, 9);
        Due.says("Promise 8", "NONE: mourner, part; BAD; STATE: another KIND.");
        for (int p : Made.beyond(0, 5)) {
            Due.due("row of " + p, x.row(p, 0, 1), -1);
            Due.due("row of " + p + " ahead of n", x.row(p, 0, 10), -1);
        }
        for (int part : Made.beyond(0, 3)) {
            Due.due("part " + part, x.row(5, part, 1), -1);
            Due.due("part " + part + " ahead of n and kind", x.row(0, part, 10), -1);
        }
        for (int n : Made.beyond(0, 9)) {
            Due.due("n " + n, x.row(5, 0, n), -2);
            Due.due("n " + n + " ahead of kind", x.row(3, 0, n), -2);
        }
        for (int p = 0; p < 5; p++) {
            Due.due("row of kind " + p, x.row(p, 0, 1), -3);
        }
        Due.due("row of a child", Made.of(5, 0, 9).row(0, 3, 0), -3);
        Due.due("the row is as it was", x.row(5, 0, 0), 0);
    }
}
