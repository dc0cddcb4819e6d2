/** Promises 1 to 8: mourners and the list. */
public final class MournersTest {
    public static void main(String[] args) {
        newObject();
        mourner();
        of();
        set();
        done();
        list();
        swap();
        row();
        Due.end();
    }

    private static void newObject() {
        OneMourner x = new OneMourner();
        for (int what = 0; what <= 7; what++) {
            Due.due("new: count(" + what + ")", x.count(what), 0);
        }
        Due.row("new: told", told(x), 0, 0, 0, 0, 0, -5, -5, -5, -5);
        for (int t = 0; t < 6; t++) {
            Due.due("new: read", x.read(t, 0), OneMourner.NO);
        }
        Due.due("new: undo", x.undo(), -3);
        Due.due("NONE", OneMourner.NONE, -1);
        Due.due("BAD", OneMourner.BAD, -2);
        Due.due("STATE", OneMourner.STATE, -3);
        Due.due("FULL", OneMourner.FULL, -4);
        Due.due("NO", OneMourner.NO, Long.MIN_VALUE);
    }

    private static long[] told(OneMourner x) {
        long[] told = new long[9];
        for (int what = 0; what < 9; what++) {
            told[what] = x.told(what);
        }
        return told;
    }

    private static long[] all(OneMourner x, int mourner) {
        long[] all = new long[8];
        for (int what = 0; what < 8; what++) {
            all[what] = x.of(mourner, what);
        }
        return all;
    }

    private static void mourner() {
        OneMourner x = new OneMourner();
        Due.due("kind -1", x.mourner(-1, 0, 0), -1);
        Due.due("kind 7", x.mourner(7, 0, 0), -1);
        Due.due("kind ahead of v", x.mourner(7, 10, 100), -1);
        Due.due("v 10", x.mourner(0, 10, 0), -2);
        Due.due("v -1", x.mourner(0, -1, 0), -2);
        Due.due("grief 100", x.mourner(0, 0, 100), -2);
        Due.due("grief -1", x.mourner(0, 0, -1), -2);
        Due.due("none came", x.count(0), 0);
        Due.due("least", x.mourner(0, 0, 0), 0);
        Due.due("greatest", x.mourner(6, 9, 99), 1);
        for (int p = 2; p < 6; p++) {
            Due.due("mourner", x.mourner(p, p, 10 * p), p);
        }
        Due.due("a seventh", x.mourner(0, 0, 0), -4);
        Due.due("kind ahead of full", x.mourner(8, 0, 0), -1);
        Due.due("v ahead of full", x.mourner(0, 0, 100), -2);
        Due.due("six", x.count(0), 6);
    }

    private static void of() {
        OneMourner x = new OneMourner();
        Due.due("of nobody", x.of(0, 0), -1);
        x.mourner(4, 7, 55);
        x.mourner(3, 2, 31);
        Due.row("of a new one", all(x, 0), 4, 7, 55, 0, 0, 0, -5, 62);
        Due.row("of a saver", all(x, 1), 3, 2, 31, 0, 0, 0, -5, 15);
        Due.due("of -1", x.of(-1, 0), -1);
        Due.due("of 2", x.of(2, 0), -1);
        Due.due("what 8", x.of(0, 8), -1);
        Due.due("what -1", x.of(0, -1), -1);
        x.list(1);
        x.list(0);
        x.done(0, true);
        Due.row("of one who is done", all(x, 0), 4, 7, 55, 0, 0, 1, 1, 62);
        x.set(1, 1, 2);
        Due.row("of one who waited", all(x, 1), 3, 2, 31, 2, 0, 0, 0, 62);
    }

    private static void set() {
        OneMourner x = new OneMourner();
        x.mourner(0, 1, 5);
        Due.due("grief", x.set(0, 0, 99), 5);
        Due.due("grief again", x.set(0, 0, 0), 99);
        Due.due("grief 100", x.set(0, 0, 100), -2);
        Due.due("grief -1", x.set(0, 0, -1), -2);
        Due.due("waited", x.set(0, 1, 99), 0);
        Due.due("waited 100", x.set(0, 1, 100), -2);
        Due.due("waited -1", x.set(0, 1, -1), -2);
        Due.due("waited again", x.set(0, 1, 7), 99);
        Due.due("hurt", x.set(0, 2, 99999), 0);
        Due.due("hurt 100000", x.set(0, 2, 100000), -2);
        Due.due("hurt -1", x.set(0, 2, -1), -2);
        Due.due("hurt again", x.set(0, 2, 12), 99999);
        Due.row("of one set", all(x, 0), 0, 1, 0, 7, 12, 0, -5, 0);
        Due.due("nobody", x.set(1, 0, 0), -1);
        Due.due("-1", x.set(-1, 0, 0), -1);
        Due.due("what 3", x.set(0, 3, 0), -1);
        Due.due("what -1", x.set(0, -1, 0), -1);
        Due.due("what ahead of n", x.set(0, 3, -1), -1);
    }

    private static void done() {
        OneMourner x = new OneMourner();
        x.mourner(0, 0, 5);
        Due.due("done", x.done(0, true), 0);
        Due.due("done again", x.done(0, true), 1);
        Due.due("is done", x.of(0, 5), 1);
        Due.due("not done", x.done(0, false), 1);
        Due.due("is not done", x.of(0, 5), 0);
        Due.due("not done again", x.done(0, false), 0);
        Due.due("nobody", x.done(1, true), -1);
        Due.due("-1", x.done(-1, true), -1);
    }

    private static void list() {
        OneMourner x = new OneMourner();
        Due.due("-1 of an empty one", x.list(-1), 0);
        Due.due("nobody", x.list(0), -1);
        for (int p = 0; p < 6; p++) {
            x.mourner(0, 0, p);
        }
        for (int p = 5; p >= 0; p--) {
            Due.due("list", x.list(p), 6 - p);
        }
        for (int p = 0; p < 6; p++) {
            Due.due("twice", x.list(p), -3);
            Due.due("place", x.of(p, 6), 5 - p);
        }
        Due.due("-2", x.list(-2), -1);
        Due.due("6", x.list(6), -1);
        Due.due("how many", x.count(2), 6);
        Due.due("empty", x.list(-1), 0);
        Due.due("none", x.count(2), 0);
        Due.due("no place", x.of(0, 6), -5);
        Due.due("again", x.list(3), 1);
        Due.due("the first one twice", x.list(3), -3);
        Due.due("another", x.list(2), 2);
        Due.due("the second one twice", x.list(2), -3);
    }

    private static void swap() {
        OneMourner x = new OneMourner();
        for (int p = 0; p < 4; p++) {
            x.mourner(0, 0, p);
        }
        x.list(3);
        x.list(1);
        x.list(0);
        Due.due("swap", x.swap(3, 0), 2);
        Due.due("3's place", x.of(3, 6), 2);
        Due.due("1's place", x.of(1, 6), 1);
        Due.due("0's place", x.of(0, 6), 0);
        Due.due("swap again", x.swap(1, 3), 2);
        Due.due("1's place then", x.of(1, 6), 2);
        Due.due("swap with the first", x.swap(1, 0), 0);
        Due.due("swap back", x.swap(1, 0), 2);
        Due.due("both", x.swap(1, 1), -2);
        Due.due("both, off it", x.swap(2, 2), -2);
        Due.due("other off it", x.swap(1, 2), -3);
        Due.due("one off it", x.swap(2, 1), -3);
        Due.due("nobody", x.swap(4, 4), -1);
        Due.due("nobody as the other", x.swap(0, 4), -1);
        Due.due("-1", x.swap(-1, 0), -1);
        Due.due("as it was", x.of(3, 6), 1);
    }

    private static void row() {
        OneMourner x = new OneMourner();
        x.mourner(6, 0, 10);
        x.mourner(3, 0, 10);
        for (int part = 0; part < 4; part++) {
            Due.due("row", x.row(0, part, part + 1), 0);
        }
        Due.due("row again", x.row(0, 2, 9), 3);
        Due.due("part 4", x.row(0, 4, 0), -1);
        Due.due("part -1", x.row(0, -1, 0), -1);
        Due.due("nobody", x.row(2, 0, 0), -1);
        Due.due("n 10", x.row(0, 0, 10), -2);
        Due.due("n -1", x.row(0, 0, -1), -2);
        Due.due("another kind", x.row(1, 0, 1), -3);
        Due.due("n ahead of kind", x.row(1, 0, 10), -2);
        Due.due("part ahead of n", x.row(1, 4, 10), -1);
        int[] pains = {21, 22, 29, 24, 21};
        for (int day = 0; day < 5; day++) {
            Due.due("pain on day " + day, x.of(0, 7), pains[day]);
            x.pass(1);
        }
    }
}
