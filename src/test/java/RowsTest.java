/** Promises 16 and 11 (6 to 8): rows, which two agree, who is dear. */
public final class RowsTest {
    public static void main(String[] args) {
        empty();
        least();
        fair();
        several();
        lostDays();
        six();
        agreed();
        agreedOfTheList();
        dear();
        Due.end();
    }

    private static long[] best(OneMourner x, int what) {
        long[] best = new long[7];
        for (int k = -1; k <= 5; k++) {
            best[k + 1] = x.best(what, k);
        }
        return best;
    }

    private static void empty() {
        OneMourner x = new OneMourner();
        Due.row("nobody, least", best(x, 0), 0, -5, -5, -5, -5, -5, -5);
        Due.row("nobody, fair", best(x, 1), 0, -5, -5, -5, -5, -5, -5);
        Due.due("what 2", x.best(2, 0), -1);
        Due.due("what -1", x.best(-1, 0), -1);
        Due.due("k 6", x.best(0, 6), -1);
        Due.due("k -2", x.best(0, -2), -1);
        x.mourner(0, 0, 9);
        Due.row("one", best(x, 0), 0, 0, -5, -5, -5, -5, -5);
        x.done(0, true);
        Due.row("one who is done", best(x, 1), 0, -5, -5, -5, -5, -5, -5);
    }

    private static void least() {
        OneMourner x = new OneMourner();
        x.mourner(0, 0, 10);
        x.mourner(0, 0, 30);
        x.mourner(0, 0, 20);
        Due.row("greatest griefs first", best(x, 0), 40, 1, 2, 0, -5, -5, -5);
        x.done(1, true);
        Due.row("of who is left", best(x, 0), 10, 2, 0, -5, -5, -5, -5);
        x.done(1, false);
        x.set(1, 2, 500);
        Due.row("hurt up to now does not count", best(x, 0), 40, 1, 2, 0, -5, -5, -5);
        x.list(0);
        Due.row("the list does not count", best(x, 0), 40, 1, 2, 0, -5, -5, -5);
    }

    /** Places hurt 0: 0, 14, 28; 1: 0, 15, 30; the mender 2: 0, 29, 57. */
    private static void fair() {
        OneMourner x = new OneMourner();
        x.mourner(0, 0, 14);
        x.mourner(0, 0, 15);
        x.mourner(2, 0, 29);
        Due.row("least", best(x, 0), 43, 2, 1, 0, -5, -5, -5);
        Due.row("fair", best(x, 1), 28, 2, 1, 0, -5, -5, -5);
        OneMourner y = new OneMourner();
        y.mourner(0, 0, 10);
        y.mourner(5, 0, 18);
        y.mourner(5, 0, 18);
        // places hurt 0: 0, 10, 20; 1 and 2: 0, 18, 18
        Due.row("least of it", best(y, 0), 28, 1, 0, 2, -5, -5, -5);
        Due.row("fair of it", best(y, 1), 18, 0, 1, 2, -5, -5, -5);
    }

    private static void several() {
        OneMourner x = new OneMourner();
        for (int p = 0; p < 4; p++) {
            x.mourner(0, 0, 7);
        }
        Due.row("all alike, least", best(x, 0), 42, 0, 1, 2, 3, -5, -5);
        Due.row("all alike, fair", best(x, 1), 21, 0, 1, 2, 3, -5, -5);
        x.done(0, true);
        Due.row("of who is left", best(x, 1), 14, 1, 2, 3, -5, -5, -5);
    }

    private static void lostDays() {
        OneMourner x = new OneMourner();
        x.mourner(0, 0, 10);
        x.mourner(1, 0, 5);
        Due.island(x, "lost 2;ache 20 d=1&p=1", 0);
        // 1 hurts 5, and 26 on the lost day 1; 0 hurts 10 and 10
        Due.row("days 0 and 2", best(x, 0), 20, 1, 0, -5, -5, -5, -5);
        x.pass(1);
        // both have waited a day; days 2 and 4 are left: 0 hurts 10, or 30; 1 hurts 26, or 26 + 7 + 8
        Due.row("days 2 and 4", best(x, 0), 10 + 41, 0, 1, -5, -5, -5, -5);
        Due.row("fair of it", best(x, 1), 30, 1, 0, -5, -5, -5, -5);
    }

    private static void six() {
        OneMourner x = new OneMourner();
        int[] griefs = {3, 60, 11, 42, 5, 27};
        for (int grief : griefs) {
            x.mourner(0, 0, grief);
        }
        Due.row("six", best(x, 0), 42 + 54 + 33 + 20 + 15, 1, 3, 5, 2, 4, 0);
        Due.row("six, fair", best(x, 1), 54, 1, 3, 5, 0, 2, 4);
        Due.island(x, "lost 2", 0);
        Due.due("six on every other day", x.best(0, -1), 2 * 164);
    }

    /** 1 is a child: it hurts on even days alone, so from an odd day on it can wait one more. */
    private static void agreed() {
        OneMourner x = new OneMourner();
        x.mourner(0, 0, 10);
        x.mourner(5, 0, 20);
        x.mourner(0, 0, 0);
        Due.due("nobody on the list", x.told(6), -5);
        x.list(0);
        Due.due("one on the list", x.told(6), -5);
        x.list(1);
        Due.due("on day 0 neither would be the same", x.told(6), -5);
        x.list(-1);
        x.list(1);
        x.list(0);
        Due.due("1 would hurt more", x.told(6), -5);
        x.pass(1);
        x.done(1, false);
        x.list(2);
        Due.due("on day 1 the child can wait", x.told(6), 1);
        x.done(0, true);
        Due.due("2 does not hurt, so none is less", x.told(6), -5);
        x.done(0, false);
        x.list(-1);
        x.list(2);
        x.list(1);
        x.list(0);
        // 2 ahead of 1: on day 2 the child hurts, so it wants the first place; 2 never hurts
        x.pass(1);
        x.done(2, false);
        Due.due("2 changes with 1", x.told(6), 12);
        x.swap(1, 0);
        Due.due("2 changes with 0", x.told(6), 2);
        x.done(0, true);
        Due.due("2 changes with 1, as 0 is done", x.told(6), 12);
    }

    private static void agreedOfTheList() {
        OneMourner x = new OneMourner();
        x.mourner(0, 0, 5);
        x.mourner(0, 0, 0);
        x.mourner(0, 0, 6);
        x.mourner(0, 0, 0);
        x.list(3);
        x.list(2);
        x.list(1);
        x.list(0);
        Due.due("the first two by their places", x.told(6), 23);
        x.swap(2, 0);
        Due.due("the first two by their places again", x.told(6), 3);
        x.done(3, true);
        // 0, 1, 2 are left: 1 changes with 2
        Due.due("whose places follow", x.told(6), 12);
        x.done(2, true);
        Due.due("who hurts has the first place", x.told(6), -5);
    }

    private static void dear() {
        OneMourner x = new OneMourner();
        Due.due("nobody", x.told(7), -5);
        Due.due("nobody's", x.told(8), -5);
        x.mourner(0, 0, 10);
        Due.due("one", x.told(7), 0);
        Due.due("one's", x.told(8), 0);
        x.mourner(0, 0, 30);
        x.mourner(1, 0, 30);
        x.mourner(1, 0, 30);
        Due.due("dear", x.told(7), 2);
        Due.due("dear by", x.told(8), 30 + 31 + 32);
        x.done(2, true);
        Due.due("dear then", x.told(7), 3);
        Due.due("dear by then", x.told(8), 61);
        Due.island(x, "lost 2", 0);
        Due.due("dear on every other day", x.told(8), 30 + 31 + 32 + 33);
        x.pass(1);
        // 3 has waited one day: the day 1 is lost, and counts for every place
        Due.due("dear from a lost day on", x.told(8), 32 + 33 + 34 + 35);
        x.done(0, true);
        x.done(1, true);
        x.done(3, true);
        Due.due("all are done", x.told(7), -5);
        Due.due("all are done, by", x.told(8), -5);
    }
}
