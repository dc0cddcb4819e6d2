/** Objects as the tests of the bounds want them, and numbers beyond bounds. */
final class Made {
    private static final int LEAST = Integer.MIN_VALUE, MOST = Integer.MAX_VALUE;

    private Made() {
    }

    /** MOURNERS by KIND, v and GRIEF, three numbers each. */
    static OneMourner of(int... each) {
        OneMourner x = new OneMourner();
        for (int i = 0; i + 2 < each.length; i += 3) {
            Due.due("mourner " + i / 3, x.mourner(each[i], each[i + 1], each[i + 2]), i / 3);
        }
        return x;
    }

    /** The same, once an ISLAND holds. */
    static OneMourner by(String island, int... each) {
        OneMourner x = of(each);
        Due.island(x, island, 0);
        return x;
    }

    /** So many that nobody hurts. */
    static OneMourner many(int mourners) {
        return of(new int[3 * mourners]);
    }

    /** DAYS go, but nobody has HURT or WAITED by them; nobody is on THE LIST yet. */
    static void go(OneMourner x, int days) {
        for (int left = days; left > 0; left -= 60) {
            x.pass(Math.min(60, left));
        }
        for (int p = 0; p < x.count(0); p++) {
            x.set(p, 1, 0);
            x.set(p, 2, 0);
        }
    }

    static OneMourner onDay(int day, int... each) {
        OneMourner x = of(each);
        go(x, day);
        Due.due("the day", x.told(0), day);
        return x;
    }

    static void list(OneMourner x, int... mourners) {
        for (int i = 0; i < mourners.length; i++) {
            Due.due("list of " + mourners[i], x.list(mourners[i]), i + 1);
        }
    }

    /** Too small and too large, by one, by far, and by as much as a byte or a short would lose. */
    static int[] beyond(int least, int most) {
        return new int[] {
            least - 1, most + 1, least - 256, most + 256, least - 65536, most + 65536, LEAST, LEAST + 1, MOST - 1, MOST,
        };
    }

    /** The same without -1, by which some calls ask for something else. */
    static int[] beyondButOne(int most) {
        int[] beyond = beyond(0, most);
        beyond[0] = -2;
        return beyond;
    }
}
