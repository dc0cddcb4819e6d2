/** The sentences of promises 25 and 32 to 35, and of the terms on TAPES, that name a bound. */
public final class TapesBoundsTest {
    private static final int LEAST = Integer.MIN_VALUE, MOST = Integer.MAX_VALUE;
    private static final long LEAST_LONG = Long.MIN_VALUE, MOST_LONG = Long.MAX_VALUE;

    public static void main(String[] args) {
        nothingAtFirst();
        tapeSizes();
        tapeAnew();
        tapeOfNothing();
        tapeRefuses();
        wraps();
        booleans();
        itemPlaces();
        itemRefuses();
        read();
        shiftBounds();
        shiftOfNone();
        shiftRefuses();
        shiftOrder();
        shiftOverlaps();
        shiftSorts();
        judgeNone();
        judgeFirst();
        judgeEnds();
        judgeRefuses();
        Due.end();
    }

    private static void nothingAtFirst() {
        Due.says("3", "TAPES 0 .. 5 hold nothing (at first)");
        OneMourner x = new OneMourner();
        for (int tape = 0; tape <= 5; tape++) {
            Due.due("item of tape " + tape, x.item(tape, 0, 1), -11);
            Due.due("read of tape " + tape, x.read(tape, 0), OneMourner.NO);
            Due.due("shift of tape " + tape, x.shift(tape, 0, tape, 0, 0), -11);
        }
    }

    private static void tapeSizes() {
        Due.says("Promise 32", "A TAPE becomes a row of n (0 .. 60) of a sort, all 0");
        OneMourner x = new OneMourner();
        for (int sort = 0; sort <= 4; sort++) {
            Due.due("60 of sort " + sort, x.tape(sort, sort, 60), 1);
            for (int i = 0; i < 60; i++) {
                Due.due("read", x.read(sort, i), 0);
            }
            Due.due("read behind the last", x.read(sort, 60), OneMourner.NO);
            Due.due("item behind the last", x.item(sort, 60, 1), -13);
            Due.due("0 of sort " + sort, x.tape(5, sort, 0), 1);
            Due.due("no item", x.item(5, 0, 1), -13);
            Due.due("read", x.read(5, 0), OneMourner.NO);
            Due.due("1 of sort " + sort, x.tape(5, sort, 1), 1);
            Due.due("one item", x.item(5, 0, 1), 1);
            Due.due("no second", x.item(5, 1, 1), -13);
        }
    }

    private static void tapeAnew() {
        Due.says("Promise 32", "A TAPE becomes a row of n (0 .. 60) of a sort, all 0");
        OneMourner x = new OneMourner();
        x.tape(0, 2, 60);
        x.tape(1, 2, 60);
        for (int i = 0; i < 60; i++) {
            x.item(0, i, i + 1);
        }
        x.item(1, 59, 5);
        Due.due("fewer", x.tape(0, 2, 3), 1);
        Due.due("the first", x.read(0, 0), 0);
        Due.due("the fourth", x.read(0, 3), OneMourner.NO);
        Due.due("more", x.tape(0, 2, 60), 1);
        for (int i = 0; i < 60; i++) {
            Due.due("read of " + i, x.read(0, i), 0);
        }
        Due.due("another tape", x.read(1, 59), 5);
    }

    private static void tapeOfNothing() {
        Due.says("Promise 32", "or holds nothing (sort -1: n does not matter): 1.");
        OneMourner x = new OneMourner();
        int[] ns = {0, 60, 61, -1, LEAST, MOST};
        for (int n : ns) {
            x.tape(0, 3, 2);
            x.item(0, 0, 7);
            Due.due("n " + n, x.tape(0, -1, n), 1);
            Due.due("item", x.item(0, 0, 1), -11);
            Due.due("read", x.read(0, 0), OneMourner.NO);
            Due.due("nothing again", x.tape(0, -1, n), 1);
        }
        x.tape(0, 3, 2);
        Due.due("all 0 again", x.read(0, 0), 0);
    }

    private static void tapeRefuses() {
        Due.says("Promise 32", "NONE: tape; BAD: sort, n above 60; SIZE.");
        OneMourner x = new OneMourner();
        x.tape(0, 1, 2);
        x.item(0, 1, 7);
        for (int tape : Made.beyond(0, 5)) {
            Due.due("tape " + tape, x.tape(tape, 0, 1), -1);
            Due.due("tape " + tape + " of nothing", x.tape(tape, -1, 1), -1);
            Due.due("tape " + tape + " ahead of sort", x.tape(tape, 5, 61), -1);
            Due.due("tape " + tape + " ahead of size", x.tape(tape, 0, -1), -1);
        }
        for (int sort : Made.beyondButOne(4)) {
            Due.due("sort " + sort, x.tape(0, sort, 1), -2);
            Due.due("sort " + sort + " ahead of size", x.tape(0, sort, -1), -2);
        }
        for (int n : Made.beyond(0, 60)) {
            Due.due("n " + n, x.tape(0, 4, n), n < 0 ? -14 : -2);
        }
        Due.due("it is as it was", x.read(0, 1), 7);
    }

    private static void item(int sort, long v, long want) {
        OneMourner x = new OneMourner();
        x.tape(3, sort, 3);
        Due.due("item of sort " + sort, x.item(3, 1, v), 1);
        Due.row(v + " as an item of sort " + sort, new long[] {x.read(3, 0), x.read(3, 1), x.read(3, 2)}, 0, want, 0);
    }

    private static void wraps() {
        Due.says("Promise 33", "Item i of a TAPE becomes v (its lowest bits, as many as an item has");
        long[] bits = {8, 16, 32, 64};
        for (int sort = 0; sort < 4; sort++) {
            long most = MOST_LONG >> 64 - bits[sort];
            long least = -most - 1;
            item(sort, 0, 0);
            item(sort, -1, -1);
            item(sort, most, most);
            item(sort, least, least);
            item(sort, most + 1, least);
            item(sort, least - 1, most);
            item(sort, 2 * most + 1, -1);
            item(sort, 2 * most + 2, 0);
            item(sort, MOST_LONG, sort == 3 ? MOST_LONG : -1);
            item(sort, LEAST_LONG, sort == 3 ? LEAST_LONG : 0);
        }
        item(0, 300, 44);
        item(1, 300, 300);
        item(1, -65537, -1);
        item(2, 1L << 32, 0);
        item(3, 1L << 32, 1L << 32);
    }

    private static void booleans() {
        Due.says("Promise 33", "booleans: whether v is not 0): 1.");
        long[] vs = {1, -1, 2, 256, 65536, 1L << 32, 1L << 63, MOST_LONG};
        for (long v : vs) {
            item(4, v, 1);
        }
        item(4, 0, 0);
        OneMourner x = new OneMourner();
        x.tape(0, 4, 1);
        x.item(0, 0, 2);
        x.item(0, 0, 0);
        Due.due("0 again", x.read(0, 0), 0);
    }

    private static void itemPlaces() {
        Due.says("Promise 33", "NONE; NOTHING; PLACE.");
        OneMourner x = new OneMourner();
        x.tape(0, 2, 60);
        Due.due("the first", x.item(0, 0, 5), 1);
        Due.due("the last", x.item(0, 59, 6), 1);
        for (int i : Made.beyond(0, 59)) {
            Due.due("item " + i, x.item(0, i, 7), -13);
        }
        Due.due("the first", x.read(0, 0), 5);
        Due.due("the last", x.read(0, 59), 6);
        x.tape(0, 2, 0);
        Due.due("of an empty row", x.item(0, 0, 7), -13);
        Due.due("ahead of an empty row", x.item(0, -1, 7), -13);
    }

    private static void itemRefuses() {
        Due.says("Promise 33", "NONE; NOTHING; PLACE.");
        OneMourner x = new OneMourner();
        for (int tape : Made.beyond(0, 5)) {
            Due.due("item of tape " + tape, x.item(tape, 0, 1), -1);
            Due.due("item of tape " + tape + " ahead of place", x.item(tape, -1, 1), -1);
        }
        Due.due("nothing is there", x.item(5, 0, 1), -11);
        Due.due("nothing ahead of place", x.item(5, -1, 1), -11);
        Due.due("nothing ahead of place, 60", x.item(5, 60, 1), -11);
    }

    private static void read() {
        Due.says("Promise 34", "NO: no such TAPE, nothing there, no such place.");
        OneMourner x = new OneMourner();
        for (int i : Made.beyond(0, 0)) {
            Due.due("nothing there, at " + i, x.read(0, i), OneMourner.NO);
        }
        x.tape(0, 3, 2);
        x.tape(5, 3, 60);
        x.item(0, 0, LEAST_LONG + 1);
        x.item(0, 1, -1);
        x.item(5, 59, 8);
        Due.row("items", new long[] {x.read(0, 0), x.read(0, 1), x.read(5, 59)}, LEAST_LONG + 1, -1, 8);
        for (int i : Made.beyond(0, 1)) {
            Due.due("place " + i, x.read(0, i), OneMourner.NO);
        }
        Due.due("place 60", x.read(5, 60), OneMourner.NO);
        for (int tape : Made.beyond(0, 5)) {
            Due.due("tape " + tape, x.read(tape, 0), OneMourner.NO);
        }
        x.tape(0, 3, 0);
        Due.due("an empty row", x.read(0, 0), OneMourner.NO);
    }

    /** TAPE 0 holds 5 ints, 1 .. 5; TAPE 1 holds 3, 7 each; TAPE 2 bytes, TAPE 3 nothing. */
    private static OneMourner tapes() {
        OneMourner x = new OneMourner();
        x.tape(0, 2, 5);
        x.tape(1, 2, 3);
        x.tape(2, 0, 5);
        for (int i = 0; i < 5; i++) {
            x.item(0, i, i + 1);
            x.item(1, i, 7);
        }
        return x;
    }

    private static long[] items(OneMourner x, int tape, int size) {
        long[] items = new long[size];
        for (int i = 0; i < size; i++) {
            items[i] = x.read(tape, i);
        }
        return items;
    }

    private static void shiftBounds() {
        Due.says("Promise 35", "PLACE: n, i or j is below 0, or beyond either's end.");
        for (int i = -2; i <= 7; i++) {
            for (int j = -2; j <= 5; j++) {
                for (int n = -2; n <= 6; n++) {
                    OneMourner x = tapes();
                    boolean stands = i >= 0 && j >= 0 && n >= 0 && i + n <= 5 && j + n <= 3;
                    Due.due("shift of " + n + " from " + i + " to " + j, x.shift(0, i, 1, j, n), stands ? n : -13);
                    for (int to = 0; to < 3; to++) {
                        boolean came = stands && to >= j && to < j + n;
                        Due.due("item " + to + " behind it", x.read(1, to), came ? i + to - j + 1 : 7);
                    }
                    Due.row("the one is as it was", items(x, 0, 5), 1, 2, 3, 4, 5);
                }
            }
        }
        OneMourner x = tapes();
        int[] far = {LEAST, LEAST + 1, MOST - 1, MOST, MOST - 4, LEAST + 5, 65536, 256};
        for (int n : far) {
            for (int other : far) {
                Due.due("far i and j", x.shift(0, n, 1, other, 1), -13);
                Due.due("far i and n", x.shift(0, n, 1, 0, other), -13);
                Due.due("far j and n", x.shift(0, 0, 1, n, other), -13);
            }
        }
    }

    private static void shiftOfNone() {
        Due.says("Promise 35", "n items of a TAPE from i on come to another one (or the same) from j on, as they all were"
            + " before: n.");
        OneMourner x = tapes();
        Due.due("none, at the ends", x.shift(0, 5, 1, 3, 0), 0);
        Due.due("none, at the heads", x.shift(0, 0, 1, 0, 0), 0);
        Due.due("none, within one", x.shift(0, 5, 0, 5, 0), 0);
        Due.row("as it was", items(x, 1, 3), 7, 7, 7);
        x.tape(4, 2, 0);
        Due.due("none of an empty row", x.shift(4, 0, 0, 5, 0), 0);
        Due.due("none to an empty row", x.shift(0, 5, 4, 0, 0), 0);
        Due.due("one to an empty row", x.shift(0, 0, 4, 0, 1), -13);
        Due.due("all of it", x.shift(0, 0, 0, 0, 5), 5);
        Due.row("as it was", items(x, 0, 5), 1, 2, 3, 4, 5);
        x.tape(4, 2, 60);
        x.tape(5, 2, 60);
        x.item(4, 0, 8);
        x.item(4, 59, 9);
        Due.due("60", x.shift(4, 0, 5, 0, 60), 60);
        Due.row("the ends of 60", new long[] {x.read(5, 0), x.read(5, 59)}, 8, 9);
    }

    private static void shiftRefuses() {
        Due.says("Promise 35", "NONE: tapes; NOTHING; CAST: of unlike sorts; PLACE");
        OneMourner x = tapes();
        for (int tape : Made.beyond(0, 5)) {
            Due.due("shift of tape " + tape, x.shift(tape, 0, 0, 0, 1), -1);
            Due.due("shift to tape " + tape, x.shift(0, 0, tape, 0, 1), -1);
            Due.due("shift of and to tape " + tape, x.shift(tape, 0, tape, 0, 1), -1);
        }
        Due.due("of nothing", x.shift(3, 0, 0, 0, 1), -11);
        Due.due("to nothing", x.shift(0, 0, 3, 0, 1), -11);
        Due.due("none of nothing to nothing", x.shift(3, 0, 4, 0, 0), -11);
        for (int sort = 0; sort <= 4; sort++) {
            for (int other = 0; other <= 4; other++) {
                x.tape(4, sort, 1);
                x.tape(5, other, 1);
                Due.due("sorts " + sort + " and " + other, x.shift(4, 0, 5, 0, 1), sort == other ? 1 : -12);
            }
        }
    }

    private static void shiftOrder() {
        Due.says("Answers", "the first that a call's words name");
        OneMourner x = tapes();
        Due.due("tape ahead of nothing", x.shift(6, 0, 3, 0, 1), -1);
        Due.due("tape ahead of nothing, the other", x.shift(3, 0, 6, 0, 1), -1);
        Due.due("tape ahead of place", x.shift(6, -1, 0, 0, 1), -1);
        Due.due("nothing ahead of place", x.shift(3, -1, 0, 0, 1), -11);
        Due.due("nothing ahead of place, the other", x.shift(0, 0, 3, 0, -1), -11);
        Due.due("nothing ahead of unlike sorts", x.shift(2, 0, 3, 0, 1), -11);
        Due.due("unlike sorts ahead of place", x.shift(0, 0, 2, 0, 6), -12);
        Due.due("unlike sorts ahead of n below 0", x.shift(2, 0, 0, 0, -1), -12);
        Due.due("none of unlike sorts", x.shift(2, 0, 0, 0, 0), -12);
    }

    private static void shiftOverlaps() {
        Due.says("Promise 35", "(or the same) from j on, as they all were before");
        for (int i = 0; i < 8; i++) {
            for (int j = 0; j < 8; j++) {
                int n = 8 - Math.max(i, j);
                OneMourner x = new OneMourner();
                x.tape(0, 3, 8);
                for (int at = 0; at < 8; at++) {
                    x.item(0, at, at + 1);
                }
                Due.due("shift of " + n + " from " + i + " to " + j, x.shift(0, i, 0, j, n), n);
                for (int at = 0; at < 8; at++) {
                    boolean came = at >= j && at < j + n;
                    Due.due("item " + at, x.read(0, at), came ? at - j + i + 1 : at + 1);
                }
            }
        }
    }

    private static void shiftSorts() {
        Due.says("3", "a row of 0 bytes, 1 shorts, 2 ints, 3 longs, 4 booleans (items 0, 1)");
        long[] kept = {-128, -32768, LEAST, LEAST_LONG + 1, 1};
        for (int sort = 0; sort <= 4; sort++) {
            OneMourner x = new OneMourner();
            x.tape(0, sort, 2);
            x.tape(1, sort, 2);
            x.item(0, 0, kept[sort]);
            Due.due("shift", x.shift(0, 0, 1, 1, 1), 1);
            Due.row("items", items(x, 1, 2), 0, kept[sort]);
        }
    }

    private static void judgeNone() {
        Due.says("3", "-5: none, or there are no MOURNERS");
        OneMourner x = new OneMourner();
        x.tape(0, 2, 3);
        x.item(0, 0, 5);
        int[] places = {0, 2, 3, -1, LEAST, MOST};
        for (int i : places) {
            Due.due("without mourners at " + i, x.judge(0, i), -5);
            Due.due("without mourners, of nothing at " + i, x.judge(1, i), -5);
        }
        OneMourner y = Made.many(6);
        y.tape(0, 2, 8);
        Due.due("none of six at 0", y.judge(0, 0), -5);
        Due.due("none of six at 2", y.judge(0, 2), -5);
        Due.due("the row ends one ahead of that", y.judge(0, 3), 105);
        y.set(5, 2, 99999);
        y.item(0, 7, 99999);
        Due.due("none of six at 2, the most", y.judge(0, 2), -5);
        Due.due("the last of six at 1", y.judge(0, 1), 5);
    }

    private static void judgeFirst() {
        Due.says("3", "HURT told by a row of ints, from a place on, one by one, is JUDGED: the first that is otherwise");
        OneMourner x = Made.many(6);
        x.tape(0, 2, 60);
        for (int p = 5; p >= 0; p--) {
            x.item(0, 54 + p, 1);
            Due.due("the first is " + p, x.judge(0, 54), p);
        }
        for (int p = 0; p < 6; p++) {
            x.set(p, 2, 1);
            Due.due("the first is behind " + p, x.judge(0, 54), p < 5 ? p + 1 : -5);
        }
        x.item(0, 54, -1);
        Due.due("below 0", x.judge(0, 54), 0);
        x.item(0, 54, (1L << 32) + 1);
        Due.due("its lowest bits", x.judge(0, 54), -5);
        x.done(2, true);
        Due.due("done or not", x.judge(0, 54), -5);
    }

    private static void judgeEnds() {
        Due.says("3", "100 and how many were looked at, if the row ends ahead of that (or the place is below 0, or the TAPE"
            + " holds nothing)");
        OneMourner x = Made.many(3);
        x.tape(0, 2, 4);
        x.tape(1, 2, 0);
        Due.row("from 1 to 4", new long[] {x.judge(0, 1), x.judge(0, 2), x.judge(0, 3), x.judge(0, 4)},
            -5, 102, 101, 100);
        x.item(0, 3, 9);
        Due.row("otherwise at the end", new long[] {x.judge(0, 1), x.judge(0, 2), x.judge(0, 3), x.judge(0, 4)},
            2, 1, 0, 100);
        for (int i : Made.beyond(0, 4)) {
            Due.due("place " + i, x.judge(0, i), 100);
            Due.due("of nothing at " + i, x.judge(2, i), 100);
            Due.due("of an empty row at " + i, x.judge(1, i), 100);
        }
        Due.due("of nothing", x.judge(2, 0), 100);
        Due.due("of an empty row", x.judge(1, 0), 100);
        x.tape(0, -1, 0);
        Due.due("of what is nothing again", x.judge(0, 0), 100);
    }

    private static void judgeRefuses() {
        Due.says("Promise 25", "NONE: tape; CAST: it is no row of ints.");
        OneMourner x = Made.many(2);
        for (int tape : Made.beyond(0, 5)) {
            Due.due("tape " + tape, x.judge(tape, 0), -1);
            Due.due("tape " + tape + " ahead of place", x.judge(tape, -1), -1);
            Due.due("tape " + tape + " without mourners", new OneMourner().judge(tape, 0), -1);
        }
        for (int sort = 0; sort <= 4; sort++) {
            x.tape(5, sort, 2);
            Due.due("sort " + sort, x.judge(5, 0), sort == 2 ? -5 : -12);
            Due.due("sort " + sort + " ahead of place", x.judge(5, -1), sort == 2 ? 100 : -12);
            x.tape(5, sort, 0);
            Due.due("an empty row of sort " + sort, x.judge(5, 0), sort == 2 ? 100 : -12);
        }
    }
}
