/** The sentences of promises 16, 19 and 20, of 11 (6 to 8), and of the terms on ROWS, that name a bound. */
public final class RowsBoundsTest {
    public static void main(String[] args) {
        rowsOfWhoIsLeft();
        aheadOfItsOwn();
        sixOnEveryOtherDay();
        everyThirdDay();
        rowsOfTold();
        severalLeast();
        severalFair();
        bestOfFewer();
        bestRefuses();
        agreedNone();
        agreedSame();
        agreedBehind();
        agreedPlaces();
        agreedTold();
        dearNone();
        severalDear();
        dearByPlaces();
        oddsBounds();
        oddsTerms();
        oddsOfNone();
        meanTerms();
        meanOfNone();
        Due.end();
    }

    /** How much, and the ROW. */
    private static long[] best(OneMourner x, int what) {
        long[] best = new long[7];
        for (int k = -1; k <= 5; k++) {
            best[k + 1] = x.best(what, k);
        }
        return best;
    }

    private static void rowsOfWhoIsLeft() {
        Due.says("2", "A ROW of all who are not DONE is how they have their DAYS, one behind the other");
        OneMourner x = Made.of(0, 0, 9, 0, 0, 20, 0, 0, 7, 0, 0, 15);
        x.list(0);
        Due.row("all, on the list or not", best(x, 0), 15 + 18 + 21, 1, 3, 0, 2, -5, -5);
        x.done(1, true);
        Due.row("without 1", best(x, 0), 9 + 14, 3, 0, 2, -5, -5, -5);
        x.done(0, true);
        x.done(3, true);
        Due.row("2 alone, least", best(x, 0), 0, 2, -5, -5, -5, -5, -5);
        Due.row("2 alone, fair", best(x, 1), 0, 2, -5, -5, -5, -5, -5);
    }

    private static void aheadOfItsOwn() {
        Due.says("2", "on the DAYS from this one on that are not LOST; by it one HURTS PAIN of all DAYS ahead of its own,"
            + " from this one on, together");
        OneMourner x = Made.of(0, 0, 6, 0, 0, 4);
        x.set(0, 2, 500);
        Due.row("days 0 and 1, whatever HURT up to now is", best(x, 0), 4, 0, 1, -5, -5, -5, -5);
        Due.island(x, "lost 2", 0);
        Due.row("days 0 and 2", best(x, 0), 8, 0, 1, -5, -5, -5, -5);
        x.pass(1);
        Due.row("days 2 and 4", best(x, 0), 6 + 12, 0, 1, -5, -5, -5, -5);
        Due.row("days 2 and 4, fair", best(x, 1), 12, 0, 1, -5, -5, -5, -5);
        x.pass(1);
        Due.row("again two days apart", best(x, 0), 8, 0, 1, -5, -5, -5, -5);
        Due.island(x, "lost 1", 1);
        Due.row("no day is lost", best(x, 0), 4, 0, 1, -5, -5, -5, -5);
        x.done(1, true);
        Due.island(x, "lost 3", 2);
        Due.row("one, from a lost day on", best(x, 0), 6, 0, -5, -5, -5, -5, -5);
    }

    private static void sixOnEveryOtherDay() {
        Due.says("2", "on the DAYS from this one on that are not LOST");
        OneMourner x = Made.of(0, 0, 6, 0, 0, 5, 0, 0, 4, 0, 0, 3, 0, 0, 2, 0, 0, 1);
        Due.row("six", best(x, 0), 35, 0, 1, 2, 3, 4, 5);
        Due.row("six, fair", best(x, 1), 9, 0, 1, 2, 3, 4, 5);
        Due.island(x, "lost 2", 0);
        Due.row("on days 0 to 10", best(x, 0), 70, 0, 1, 2, 3, 4, 5);
        Due.due("dear by", x.told(8), 60);
        x.pass(1);
        Due.row("on days 2 to 12", best(x, 0), 70 + 21, 0, 1, 2, 3, 4, 5);
        Due.due("dear by", x.told(8), 60);
    }

    /** One who hurts 1 a day has the last of three days: so many days ahead of it as it hurts. */
    private static void everyThirdDay() {
        Due.says("2", "on the DAYS from this one on that are not LOST");
        // days 0, 1, 3; 1, 3, 4; 3, 4, 6; and again
        int[] last = {3, 3, 4, 3, 3, 4};
        int[] first = {0, 0, 1, 0, 0, 1};
        OneMourner x = Made.by("lost 3", 0, 0, 1, 0, 0, 0, 0, 0, 0);
        for (int day = 0; day < 6; day++) {
            Due.due("mean from day " + day, x.mean(0) * 3 / x.mean(1), first[day] + last[day] + first[day] + 1
                + (day % 3 == 1 ? 1 : 0));
            Due.due("dear by, from day " + day, x.told(8), last[day] - first[day]);
            Due.due("least from day " + day, x.best(0, -1), first[day]);
            x.pass(1);
        }
    }

    private static void rowsOfTold() {
        Due.says("2", "PAIN of all DAYS ahead of its own, from this one on, together");
        OneMourner x = Made.of(6, 0, 0, 0, 0, 0, 0, 0, 0, 0, 0, 0);
        int[] row = {1, 3, 5, 9};
        for (int part = 0; part < 4; part++) {
            x.row(0, part, row[part]);
        }
        int[] three = {1 + 3 + 5, 3 + 5 + 9, 5 + 9 + 1, 9 + 1 + 3};
        for (int day = 0; day < 5; day++) {
            Due.due("dear by, from day " + day, x.told(8), three[day % 4]);
            Due.due("fair from day " + day, x.best(1, -1), 0);
            x.pass(1);
        }
    }

    private static void severalLeast() {
        Due.says("2", "(of several either time the first as a row of numbers)");
        Due.row("six alike", best(Made.of(0, 0, 3, 0, 0, 3, 0, 0, 3, 0, 0, 3, 0, 0, 3, 0, 0, 3), 0),
            45, 0, 1, 2, 3, 4, 5);
        Due.row("six who never hurt", best(Made.many(6), 0), 0, 0, 1, 2, 3, 4, 5);
        Due.row("two and two alike", best(Made.of(0, 0, 5, 0, 0, 7, 0, 0, 7, 0, 0, 5), 0), 32, 1, 2, 0, 3, -5, -5);
        OneMourner x = Made.many(6);
        Made.list(x, 5, 4, 3, 2, 1, 0);
        x.done(0, true);
        x.done(3, true);
        Due.row("whatever the list is", best(x, 0), 0, 1, 2, 4, 5, -5, -5);
    }

    /** 0 and 1 hurt 6 a day, 2 hurts 12: two are on its place 0 or 1, so that nobody hurts more than 12. */
    private static void severalFair() {
        Due.says("2", "(of several either time the first as a row of numbers)");
        OneMourner x = Made.of(0, 0, 6, 0, 0, 6, 0, 0, 12);
        Due.row("fair", best(x, 1), 12, 0, 2, 1, -5, -5, -5);
        Due.row("least", best(x, 0), 18, 2, 0, 1, -5, -5, -5);
        Due.row("six alike", best(Made.of(0, 0, 3, 0, 0, 3, 0, 0, 3, 0, 0, 3, 0, 0, 3, 0, 0, 3), 1),
            15, 0, 1, 2, 3, 4, 5);
        Due.row("who hurts comes first", best(Made.of(0, 0, 0, 0, 0, 1, 0, 0, 0), 1), 0, 1, 0, 2, -5, -5, -5);
    }

    private static void bestOfFewer() {
        Due.says("Promise 16", "k -1 how much, else the k-th (-5: there are fewer)");
        OneMourner x = Made.many(6);
        for (int left = 6; left >= 0; left--) {
            for (int k = 0; k <= 5; k++) {
                Due.due("least of " + left + " at " + k, x.best(0, k), k < left ? 6 - left + k : -5);
                Due.due("fair of " + left + " at " + k, x.best(1, k), k < left ? 6 - left + k : -5);
            }
            x.done(6 - left, true);
        }
        Due.says("2", "(if all are DONE, there is one ROW, by which nobody HURTS)");
        Due.row("all are done", best(x, 0), 0, -5, -5, -5, -5, -5, -5);
        Due.row("all are done, fair", best(x, 1), 0, -5, -5, -5, -5, -5, -5);
        Due.row("without mourners", best(new OneMourner(), 0), 0, -5, -5, -5, -5, -5, -5);
        Due.row("without mourners, fair", best(new OneMourner(), 1), 0, -5, -5, -5, -5, -5, -5);
    }

    private static void bestRefuses() {
        Due.says("Promise 16", "NONE: what, k (-1 .. 5).");
        OneMourner x = Made.many(6);
        for (int what : Made.beyond(0, 1)) {
            Due.due("what " + what, x.best(what, 0), -1);
            Due.due("what " + what + ", how much", x.best(what, -1), -1);
        }
        for (int k : Made.beyond(-1, 5)) {
            Due.due("k " + k, x.best(0, k), -1);
            Due.due("k " + k + ", fair", x.best(1, k), -1);
        }
    }

    private static void agreedNone() {
        Due.says("2", "(-5: none)");
        Due.due("without mourners", new OneMourner().told(6), -5);
        OneMourner x = Made.of(0, 0, 0, 0, 0, 5);
        Due.due("nobody on the list", x.told(6), -5);
        x.list(0);
        Due.due("one on the list", x.told(6), -5);
        x.list(1);
        Due.due("two", x.told(6), 1);
        x.done(0, true);
        Due.due("one is done", x.told(6), -5);
        x.done(1, true);
        Due.due("both are done", x.told(6), -5);
        x.done(0, false);
        x.done(1, false);
        x.swap(0, 1);
        Due.due("one would hurt more", x.told(6), -5);
    }

    private static void agreedSame() {
        Due.says("2", "would both HURT less, or one less and the other the same");
        OneMourner x = Made.many(2);
        Made.list(x, 0, 1);
        Due.due("both the same", x.told(6), -5);
        x.set(1, 0, 1);
        Due.due("the second less by 1", x.told(6), 1);
        x.set(0, 0, 1);
        Due.due("the first more by 1", x.told(6), -5);
        x.set(1, 0, 99);
        Due.due("the second much less, the first more by 1", x.told(6), -5);
        Due.island(x, "calm 1 p=0&d=0", 0);
        Due.due("the first the same on this day", x.told(6), 1);
        Due.island(x, "calm 1 p=0&d=0;lost 2", 1);
        Due.due("the second place is a day later", x.told(6), -5);
        Due.island(x, "calm 1 p=0;lost 2", 2);
        Due.due("the first the same on both", x.told(6), 1);
    }

    /** What one HURTS ahead of either place is the same: the child on place 1 hurts on day 0, not on day 1. */
    private static void agreedBehind() {
        Due.says("2", "would both HURT less, or one less and the other the same");
        OneMourner x = Made.of(0, 0, 5, 5, 0, 9, 0, 0, 4);
        Made.list(x, 0, 1, 2);
        Due.due("the child on place 1", x.told(6), 12);
        x.swap(0, 1);
        Due.due("the child on place 0", x.told(6), -5);
        x.swap(1, 2);
        Due.due("the child on the last place", x.told(6), -5);
        x.swap(1, 0);
        Due.due("the child on place 1, 2 ahead of it", x.told(6), 1);
    }

    private static void agreedPlaces() {
        Due.says("2", "THE LIST's ones who are not DONE being a ROW");
        OneMourner x = Made.of(0, 0, 0, 0, 0, 8, 0, 0, 9);
        Made.list(x, 2, 0, 1);
        Due.due("0 and 1", x.told(6), 1);
        x.done(1, true);
        Due.due("1 is done", x.told(6), -5);
        x.done(1, false);
        x.done(2, true);
        Due.due("2 is done", x.told(6), 1);
        x.done(2, false);
        x.list(-1);
        Made.list(x, 0, 2);
        Due.due("1 is off the list", x.told(6), 2);
        x.done(0, true);
        x.list(1);
        Due.due("who is done has no place in it", x.told(6), -5);
    }

    private static void agreedTold() {
        Due.says("2", "(told as 10 times the lesser and the greater number)");
        OneMourner x = Made.of(0, 0, 0, 0, 0, 0, 0, 0, 9, 0, 0, 9, 0, 0, 0, 0, 0, 9);
        Made.list(x, 0, 3);
        Due.due("0 and 3", x.told(6), 3);
        x.list(-1);
        Made.list(x, 4, 5);
        Due.due("4 and 5", x.told(6), 45);
        x.list(-1);
        Made.list(x, 4, 2);
        Due.due("4 and 2", x.told(6), 24);
        Due.says("2", "the first two of them");
        x.list(-1);
        Made.list(x, 5, 4, 3, 2, 0, 1);
        Due.due("4 with the next", x.told(6), 34);
        x.done(3, true);
        Due.due("4 with the one behind", x.told(6), 24);
        x.done(2, true);
        Due.due("none behind 4 would hurt less", x.told(6), -5);
    }

    private static void dearNone() {
        Due.says("2", "(of several the first; -5: all are DONE); how much less");
        Due.due("without mourners", new OneMourner().told(7), -5);
        Due.due("without mourners, by", new OneMourner().told(8), -5);
        OneMourner x = Made.of(0, 0, 9, 0, 0, 30);
        x.done(1, true);
        Due.due("the one who is not done", x.told(7), 0);
        Due.due("has one day", x.told(8), 0);
        x.done(0, true);
        Due.due("all are done", x.told(7), -5);
        Due.due("all are done, by", x.told(8), -5);
        x.done(1, false);
        Due.due("the other", x.told(7), 1);
        x.done(0, false);
        Due.due("both", x.told(7), 1);
        Due.due("both, by", x.told(8), 30);
    }

    private static void severalDear() {
        Due.says("2", "(of several the first; -5: all are DONE); how much less");
        OneMourner x = Made.many(6);
        Due.due("six who never hurt", x.told(7), 0);
        Due.due("six who never hurt, by", x.told(8), 0);
        x.done(0, true);
        Due.due("five", x.told(7), 1);
        x.set(4, 0, 3);
        x.set(3, 0, 3);
        x.set(5, 0, 2);
        Due.due("3 and 4", x.told(7), 3);
        Due.due("3 and 4, by", x.told(8), 12);
        Made.list(x, 4, 3, 5);
        Due.due("whatever the list is", x.told(7), 3);
        x.set(4, 0, 4);
        Due.due("4", x.told(7), 4);
        Due.due("4, by", x.told(8), 16);
    }

    private static void dearByPlaces() {
        Due.says("2", "if it has the first DAY of a ROW in place of the last one");
        OneMourner x = Made.of(0, 0, 40, 5, 0, 90, 0, 0, 40);
        // on days 0 and 1 the child hurts 90 and 0
        Due.due("dear", x.told(7), 1);
        Due.due("dear by", x.told(8), 90);
        x.done(2, true);
        Due.due("dear of two", x.told(7), 1);
        x.done(2, false);
        Due.island(x, "lost 2;ache 6 p=0", 0);
        // days 0 to 3: 0 hurts 46 each, the child 90, 0, 88, 0
        Due.due("dear on days 0 to 4", x.told(7), 0);
        Due.due("dear on days 0 to 4, by", x.told(8), 184);
        x.pass(1);
        // day 1 is lost, and ahead of the first as of the last; days 2 to 5: 0 hurts 46 each
        Due.due("dear from a lost day on", x.told(7), 0);
        Due.due("dear from a lost day on, by", x.told(8), 184);
    }

    private static void odds(OneMourner x, int q, long above, long below) {
        Due.due("odds of " + q + ", above", x.odds(q, 0), above);
        Due.due("odds of " + q + ", below", x.odds(q, 1), below);
    }

    private static void oddsBounds() {
        Due.says("Promise 19", "NO: q, part.");
        OneMourner x = Made.many(2);
        for (int q : Made.beyond(0, 9999)) {
            odds(x, q, OneMourner.NO, OneMourner.NO);
        }
        for (int part : Made.beyond(0, 1)) {
            Due.due("part " + part, x.odds(0, part), OneMourner.NO);
            Due.due("part " + part + ", q 10000", x.odds(10000, part), OneMourner.NO);
        }
        Due.says("2", "ODDS of q (0 .. 9999)");
        odds(x, 0, 1, 1);
        odds(x, 9999, 1, 1);
        // three who each hurt 1111 a day, on days 2, 4 and 6, from day 1 on
        OneMourner y = Made.of(6, 0, 56, 6, 0, 56, 6, 0, 56);
        Due.island(y, "lost 2;ache 99 p<9;ache 99 p<9;ache 99 p<9;ache 99 p<9;ache 99 p<9", 0);
        for (int i = 0; i < 12; i++) {
            y.row(i / 4, i % 4, 9);
        }
        y.pass(1);
        odds(y, 9998, 0, 1);
        odds(y, 9999, 1, 1);
        Due.due("mean", y.mean(0), 9999);
        y.set(0, 0, 57);
        odds(y, 9999, 0, 1);
    }

    private static void oddsTerms() {
        Due.says("2", "how likely all HURT q or less by it, together: a fraction in lowest terms");
        OneMourner x = Made.of(0, 0, 6, 0, 0, 5, 0, 0, 4, 0, 0, 3, 0, 0, 2, 0, 0, 1);
        odds(x, 0, 0, 1);
        odds(x, 34, 0, 1);
        odds(x, 35, 1, 720);
        // five neighbours can change places
        odds(x, 36, 1, 120);
        odds(x, 68, 119, 120);
        odds(x, 69, 719, 720);
        odds(x, 70, 1, 1);
        odds(x, 9999, 1, 1);
    }

    private static void oddsOfNone() {
        Due.says("2", "(if all are DONE, there is one ROW, by which nobody HURTS)");
        odds(new OneMourner(), 0, 1, 1);
        odds(new OneMourner(), 9999, 1, 1);
        OneMourner x = Made.of(0, 0, 99, 0, 0, 99);
        odds(x, 0, 0, 1);
        odds(x, 98, 0, 1);
        odds(x, 99, 1, 1);
        x.done(0, true);
        odds(x, 0, 1, 1);
        x.done(1, true);
        odds(x, 0, 1, 1);
    }

    private static void mean(OneMourner x, long above, long below) {
        Due.due("mean, above", x.mean(0), above);
        Due.due("mean, below", x.mean(1), below);
    }

    private static void meanTerms() {
        Due.says("2", "MEAN: what all HURT by all ROWS, together, by how many ROWS there are: a fraction in lowest terms.");
        OneMourner x = Made.of(0, 0, 6, 0, 0, 5, 0, 0, 4, 0, 0, 3, 0, 0, 2, 0, 0, 1);
        mean(x, 105, 2);
        x.set(0, 0, 7);
        mean(x, 55, 1);
        OneMourner y = Made.of(5, 0, 5, 0, 0, 0, 0, 0, 0);
        // the child hurts 0, 5 or 5
        mean(y, 10, 3);
        y.set(0, 0, 6);
        mean(y, 4, 1);
        y.set(0, 0, 0);
        mean(y, 0, 1);
        Due.says("Promise 20", "NO: part.");
        for (int part : Made.beyond(0, 1)) {
            Due.due("part " + part, y.mean(part), OneMourner.NO);
        }
    }

    private static void meanOfNone() {
        Due.says("2", "(if all are DONE, there is one ROW, by which nobody HURTS)");
        mean(new OneMourner(), 0, 1);
        OneMourner x = Made.of(0, 0, 99, 0, 0, 99);
        mean(x, 99, 1);
        x.done(0, true);
        mean(x, 0, 1);
        x.done(1, true);
        mean(x, 0, 1);
    }
}
