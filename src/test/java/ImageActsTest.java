/** Promises 26 to 31: the image, acts, the trace, kinds, counts. */
public final class ImageActsTest {
    public static void main(String[] args) {
        image();
        islandsOfImages();
        fewerMourners();
        acts();
        wrapping();
        noActs();
        taken();
        count();
        Due.end();
    }

    private static OneMourner all() {
        OneMourner x = new OneMourner();
        x.mourner(6, 3, 40);
        x.mourner(1, 4, 50);
        x.row(0, 1, 8);
        x.set(0, 1, 2);
        x.set(1, 2, 600);
        x.list(1);
        x.list(0);
        x.pass(1);
        x.see(0, 5, 6);
        x.plan(3, 1);
        x.plan(0, 0);
        x.book(1, 600);
        Due.island(x, "lost 5", 0);
        return x;
    }

    private static long[] looks(OneMourner x) {
        long[] looks = new long[26];
        for (int i = 0; i < 16; i++) {
            looks[i] = x.of(i / 8, i % 8);
        }
        for (int what = 0; what < 6; what++) {
            looks[16 + what] = x.count(what);
        }
        looks[22] = x.told(0);
        looks[23] = x.told(1);
        looks[24] = x.ends(0);
        looks[25] = x.can(0, 0, 1);
        return looks;
    }

    private static void image() {
        OneMourner x = all();
        Due.due("no image", x.undo(), -3);
        long[] was = looks(x);
        Due.due("image", x.image(), 2);
        x.set(0, 0, 1);
        x.set(0, 1, 90);
        x.set(0, 2, 9);
        x.set(1, 2, 8);
        x.done(0, true);
        x.done(1, false);
        x.row(0, 1, 1);
        x.list(-1);
        x.pass(7);
        x.see(0, 1, 1);
        x.plan(-1, 0);
        x.plan(1, 1);
        x.book(0, 3);
        x.mourner(5, 5, 5);
        Due.due("undo", x.undo(), 2);
        Due.row("all is as it was", looks(x), was);
        Due.due("the row is as it was", x.row(0, 1, 8), 8);
        Due.due("the book is as it was", x.looked(), -5);
        x.set(0, 0, 2);
        x.pass(1);
        x.see(-1, 0, 0);
        x.book(-1, 0);
        Due.due("undo again", x.undo(), 2);
        Due.row("all is as it was again", looks(x), was);
        x.set(0, 0, 77);
        Due.due("another image", x.image(), 2);
        x.set(0, 0, 78);
        x.undo();
        Due.due("as the newest image", x.of(0, 2), 77);
    }

    private static void islandsOfImages() {
        OneMourner x = new OneMourner();
        x.mourner(0, 0, 10);
        x.image();
        Due.feed(x, "lost 4");
        x.tape(0, 2, 1);
        x.item(0, 0, 55);
        x.act(0, 0, 1);
        x.undo();
        Due.due("the text is no part of it", x.count(6), 6);
        Due.due("tapes are no part of it", x.read(0, 0), 55);
        Due.due("the trace is no part of it", x.trace(0), 10);
        Due.due("island", x.island(), 0);
        Due.due("lost", x.told(1), 4);
        x.undo();
        Due.due("islands are no part of it", x.count(1), 1);
        Due.due("which one holds is", x.told(1), 0);
        Due.island(x, "ache 5 p=0", 1);
        x.image();
        Due.island(x, "ache 7 p=0;lost 3", 2);
        Due.due("the newest holds", x.of(0, 7), 17);
        x.undo();
        Due.due("the second holds", x.of(0, 7), 15);
        Due.due("the second has no lost", x.told(1), 0);
        Due.island(x, "lost", -14);
        Due.due("it holds on", x.of(0, 7), 15);
        Due.island(x, "calm 4 p=0", 3);
        Due.due("the newest holds again", x.of(0, 7), 6);
    }

    private static void fewerMourners() {
        OneMourner x = new OneMourner();
        Due.due("an image of nobody", x.image(), 0);
        x.mourner(6, 5, 50);
        x.row(0, 0, 9);
        x.set(0, 1, 9);
        x.set(0, 2, 9);
        x.done(0, true);
        x.list(0);
        Due.due("undo", x.undo(), 0);
        Due.due("nobody", x.of(0, 0), -1);
        Due.due("nobody on the list", x.count(2), 0);
        Due.due("nobody hurts", x.told(3), 0);
        Due.due("nobody is done", x.told(4), 0);
        Due.due("nobody is looked at", x.best(0, 0), -5);
        Due.due("mourner", x.mourner(6, 0, 10), 0);
        long[] is = new long[8];
        for (int what = 0; what < 8; what++) {
            is[what] = x.of(0, what);
        }
        Due.row("a new one", is, 6, 0, 10, 0, 0, 0, -5, 20);
        Due.due("a new row", x.row(0, 0, 0), 0);
    }

    private static void act(OneMourner x, int mourner, int act, int arg, long want, int... trace) {
        String call = "act(" + mourner + ", " + act + ", " + arg + ")";
        Due.due(call, x.act(mourner, act, arg), want);
        Due.due(call + ", ran", x.count(7), trace.length);
        for (int i = 0; i < trace.length; i++) {
            Due.due(call + ", trace " + i, x.trace(i), trace[i]);
        }
        Due.due(call + ", behind the trace", x.trace(trace.length), -1);
        Due.due(call + ", ahead of the trace", x.trace(-1), -1);
    }

    /** One of each KIND but TOLD: its number is its KIND, its v 9 less that. */
    private static void acts() {
        OneMourner x = new OneMourner();
        for (int kind = 0; kind < 6; kind++) {
            x.mourner(kind, 9 - kind, 0);
        }
        act(x, 0, 0, 20, 20, 10);
        act(x, 0, 1, 20, 11, 11, 10);
        act(x, 0, 2, 20, 22, 12, 11, 10);
        act(x, 1, 0, 20, 21, 10);
        act(x, 1, 1, 20, 13 ^ 6, 20, 11, 10);
        act(x, 1, 2, 20, 2 * (13 ^ 6), 12, 20, 11, 10);
        act(x, 2, 0, 20, 62, 30, 10);
        act(x, 2, 1, 20, 55, 11, 30, 10);
        act(x, 2, 2, 20, 110, 12, 11, 30, 10);
        act(x, 3, 0, 20, 23, 10);
        act(x, 3, 1, 20, 17, 11, 10);
        act(x, 3, 2, 20, 34 + (4 - 6), 40, 12, 11, 10, 11, 10);
        act(x, 4, 0, 20, -24, 50, 10);
        act(x, 4, 1, 20, (-25 - 5) ^ 6, 51, 20, 11, 50, 10);
        act(x, 4, 2, 20, 2 * ((-25 - 5) ^ 6), 12, 51, 20, 11, 50, 10);
        act(x, 5, 0, 20, 65, 30, 10);
        act(x, 5, 1, 20, 61, 11, 30, 10);
        act(x, 5, 2, 20, 2 * (15 * 3 + 5 - 4), 60, 12, 11, 30, 10);
        OneMourner y = new OneMourner();
        y.mourner(0, 0, 0);
        y.mourner(6, 5, 0);
        act(y, 1, 0, 20, 21 ^ 5, 71, 10);
        act(y, 1, 1, 20, (21 ^ 5) - 5 + 3, 70, 11, 71, 10, 10);
        int waits20 = (21 ^ 5) - 5 + 3;
        int waits1 = (2 ^ 5) - 5 + 3;
        act(y, 1, 2, 20, 2 * waits20 + waits1, 40, 12, 70, 11, 71, 10, 10, 70, 11, 71, 10, 10);
    }

    private static void wrapping() {
        OneMourner x = new OneMourner();
        x.mourner(0, 1, 0);
        x.mourner(2, 0, 0);
        x.mourner(5, 9, 0);
        act(x, 1, 0, Integer.MAX_VALUE, Integer.MAX_VALUE * 3 + 1, 30, 10);
        act(x, 0, 1, Integer.MIN_VALUE, Integer.MAX_VALUE, 11, 10);
        act(x, 0, 2, Integer.MIN_VALUE, -2, 12, 11, 10);
        act(x, 2, 2, Integer.MIN_VALUE, 2 * ((Integer.MIN_VALUE - 2) * 3 + 2 - 9), 60, 12, 11, 30, 10);
    }

    private static void noActs() {
        OneMourner x = new OneMourner();
        x.mourner(0, 1, 0);
        x.act(0, 2, 5);
        act(x, 1, 0, 5, 0);
        x.act(0, 2, 5);
        act(x, 0, 3, 5, 0);
        x.act(0, 2, 5);
        act(x, 0, -1, 5, 0);
        x.act(0, 2, 5);
        act(x, -1, 0, 5, 0);
    }

    private static void taken() {
        OneMourner x = new OneMourner();
        String[] under = {"0", "01", "02", "03", "014", "025"};
        for (int kind = 0; kind < 6; kind++) {
            x.mourner(kind, 0, 0);
        }
        for (int kind = 0; kind < 6; kind++) {
            for (int k = 0; k < 7; k++) {
                int want = under[kind].indexOf('0' + k) >= 0 ? kind : -12;
                Due.due("kind " + kind + " taken for " + k, x.taken(kind, k), want);
            }
        }
        Due.due("nobody", x.taken(6, 0), -11);
        Due.due("-1", x.taken(-1, 0), -11);
        Due.due("k 7", x.taken(0, 7), -2);
        Due.due("k -1", x.taken(0, -1), -2);
        Due.due("k ahead of nobody", x.taken(6, 7), -2);
        OneMourner y = new OneMourner();
        y.mourner(6, 0, 0);
        Due.row("told", new long[] {y.taken(0, 0), y.taken(0, 1), y.taken(0, 2), y.taken(0, 3), y.taken(0, 4),
            y.taken(0, 5), y.taken(0, 6)}, 6, -12, -12, 6, -12, -12, 6);
    }

    private static void count() {
        OneMourner x = all();
        Due.feed(x, "abc");
        x.act(0, 0, 0);
        int[] want = {2, 1, 2, 1, 2, 1, 3, 2};
        for (int what = 0; what < 8; what++) {
            Due.due("count(" + what + ")", x.count(what), want[what]);
        }
        Due.due("count(8)", x.count(8), -2);
        Due.due("count(-1)", x.count(-1), -2);
    }
}
