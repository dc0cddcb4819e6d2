/** Promises 17 to 20: what is seen, what one can have, odds, means. */
public final class SeenOddsTest {
    public static void main(String[] args) {
        see();
        griefs();
        waits();
        can();
        days();
        odds();
        mean();
        Due.end();
    }

    private static long[] can(OneMourner x, int mourner) {
        long[] can = new long[6];
        for (int i = 0; i < 6; i++) {
            can[i] = x.can(mourner, i / 2, i % 2);
        }
        return can;
    }

    private static void see() {
        OneMourner x = new OneMourner();
        Due.due("-1", x.see(-1, 5000, 5000), 0);
        Due.due("nobody", x.see(0, 0, 0), -1);
        x.mourner(0, 0, 10);
        Due.due("pain 1000", x.see(0, 1000, 0), -2);
        Due.due("pain -1", x.see(0, -1, 0), -2);
        Due.due("n 21", x.see(0, 0, 21), -2);
        Due.due("n -1", x.see(0, 0, -1), -2);
        Due.due("mourner ahead of pain", x.see(1, 1000, 0), -1);
        Due.due("-2", x.see(-2, 0, 0), -1);
        Due.due("greatest", x.see(0, 999, 20), 1);
        for (int i = 2; i <= 5; i++) {
            Due.due("see", x.see(0, 0, 0), i);
        }
        Due.due("a sixth", x.see(0, 0, 0), -4);
        Due.due("pain ahead of full", x.see(0, 1000, 0), -2);
        Due.due("seen", x.count(3), 5);
        Due.due("none then", x.see(-1, 0, 0), 0);
        Due.due("none", x.count(3), 0);
        Due.due("again", x.see(0, 0, 0), 1);
    }

    private static void griefs() {
        OneMourner x = new OneMourner();
        x.mourner(3, 4, 50);
        x.mourner(0, 0, 1);
        Due.row("nothing is seen", can(x, 0), 100, 0, 61, 0, 10, 0);
        x.see(0, 10, 0);
        // the half of 20 or 21, as 0 is less than 4; waited 4 and more is twice the sum
        Due.row("10 now", can(x, 0), 2, 20, 0, -5, 0, -5);
        Due.row("of another", can(x, 1), 100, 0, 61, 0, 10, 0);
        x.see(0, 40, 4);
        Due.row("40 in 4 days", can(x, 0), 1, 20, 0, -5, 0, -5);
        x.see(0, 41, 4);
        Due.row("41 in 4 days", can(x, 0), 0, -5, 0, -5, 0, -5);
        Due.due("grief is as it was", x.of(0, 2), 50);
        x.see(-1, 0, 0);
        Due.island(x, "ache 5 g>4&p=0", 0);
        x.see(0, 51, 5);
        Due.due("twice 25 is no 51", x.can(0, 0, 0), 0);
        x.see(-1, 0, 0);
        x.see(0, 25, 0);
        // 50 is 50 without the ache, but 50 to 99 ache 5 more: 45 / 2 is no way, 46 is no 50
        Due.row("griefs by what aches", can(x, 0), 0, -5, 0, -5, 0, -5);
        x.see(-1, 0, 0);
        x.see(0, 27, 0);
        Due.row("27 by what aches", can(x, 0), 1, 50, 4, 0, 9, 1);
        Due.due("mourner 2", x.can(2, 0, 0), -1);
        Due.due("mourner -1", x.can(-1, 0, 0), -1);
        Due.due("which 3", x.can(0, 3, 0), -1);
        Due.due("which -1", x.can(0, -1, 0), -1);
        Due.due("what 2", x.can(0, 0, 2), -1);
        Due.due("what -1", x.can(0, 0, -1), -1);
    }

    private static void waits() {
        OneMourner x = new OneMourner();
        x.mourner(2, 0, 30);
        x.see(0, 0, 0);
        Due.row("0 now", can(x, 0), 1, 0, 31, 30, 0, -5);
        x.see(0, 0, 3);
        Due.row("0 in 3 days", can(x, 0), 1, 0, 31, 30, 0, -5);
        x.see(-1, 0, 0);
        x.see(0, 20, 3);
        Due.row("20 in 3 days", can(x, 0), 1, 23, 1, 7, 0, -5);
        x.set(0, 0, 99);
        x.see(-1, 0, 0);
        x.see(0, 39, 0);
        Due.due("60 at most", x.can(0, 1, 0), 1);
        Due.due("60 at most, the least", x.can(0, 1, 1), 60);
        x.see(-1, 0, 0);
        x.see(0, 38, 0);
        Due.due("61 is none", x.can(0, 1, 0), 0);
        x.set(0, 1, 90);
        x.see(-1, 0, 0);
        x.see(0, 0, 20);
        Due.row("waited is 99 at most", can(x, 0), 100, 0, 0, -5, 10, 0);
        x.see(0, 1, 20);
        Due.row("waited is 99 at most, not 110", can(x, 0), 0, -5, 0, -5, 0, -5);
        Due.due("waited is as it was", x.of(0, 3), 90);
    }

    private static void can() {
        OneMourner x = new OneMourner();
        x.mourner(6, 3, 20);
        x.set(0, 1, 5);
        x.row(0, 0, 7);
        x.see(0, 17, 0);
        Due.row("half of 20 and 7", can(x, 0), 1, 5, 3, 0, 4, 6);
        x.see(0, 40, 3);
        Due.row("twice 20 in 3 days", can(x, 0), 0, -5, 3, 0, 3, 6);
        Due.due("v is as it was", x.of(0, 1), 3);
        x.done(0, true);
        Due.row("done or not", can(x, 0), 0, -5, 3, 0, 3, 6);
        OneMourner y = new OneMourner();
        y.mourner(0, 3, 20);
        Due.island(y, "ache 5 v>6", 0);
        y.see(0, 25, 0);
        Due.row("v by what aches", can(y, 0), 1, 25, 0, -5, 3, 7);
    }

    /** n DAYS from now: on the DAY when it is asked. */
    private static void days() {
        OneMourner x = new OneMourner();
        x.mourner(5, 0, 20);
        x.see(0, 18, 2);
        Due.due("on day 2", x.can(0, 0, 1), 20);
        x.pass(1);
        Due.due("on day 3", x.can(0, 0, 0), 0);
        x.see(-1, 0, 0);
        x.see(0, 0, 2);
        Due.due("a child on day 3", x.can(0, 0, 0), 100);
    }

    private static void odds(OneMourner x, int q, long above, long below) {
        Due.due("odds of " + q + ", above", x.odds(q, 0), above);
        Due.due("odds of " + q + ", below", x.odds(q, 1), below);
    }

    private static void odds() {
        OneMourner x = new OneMourner();
        odds(x, 0, 1, 1);
        Due.due("q -1", x.odds(-1, 0), OneMourner.NO);
        Due.due("q 10000", x.odds(10000, 0), OneMourner.NO);
        Due.due("part 2", x.odds(0, 2), OneMourner.NO);
        Due.due("part -1", x.odds(0, -1), OneMourner.NO);
        x.mourner(0, 0, 10);
        odds(x, 0, 1, 1);
        x.mourner(0, 0, 20);
        x.mourner(0, 0, 40);
        // all hurt once the second's grief and twice the third's: 40, 50, 60, 80, 90 or 100
        odds(x, 39, 0, 1);
        odds(x, 40, 1, 6);
        odds(x, 49, 1, 6);
        odds(x, 50, 1, 3);
        odds(x, 70, 1, 2);
        odds(x, 79, 1, 2);
        odds(x, 80, 2, 3);
        odds(x, 99, 5, 6);
        odds(x, 100, 1, 1);
        odds(x, 9999, 1, 1);
        x.done(0, true);
        odds(x, 20, 1, 2);
        x.done(1, true);
        x.done(2, true);
        odds(x, 0, 1, 1);
    }

    private static void mean(OneMourner x, long above, long below) {
        Due.due("mean, above", x.mean(0), above);
        Due.due("mean, below", x.mean(1), below);
    }

    private static void mean() {
        OneMourner x = new OneMourner();
        mean(x, 0, 1);
        Due.due("part 2", x.mean(2), OneMourner.NO);
        Due.due("part -1", x.mean(-1), OneMourner.NO);
        x.mourner(0, 0, 10);
        mean(x, 0, 1);
        x.mourner(0, 0, 21);
        mean(x, 31, 2);
        x.mourner(0, 0, 40);
        mean(x, 71, 1);
        x.mourner(1, 0, 0);
        // each has each place a fourth of the time: 6 of the griefs, and 0 + 1 + 3 of who broods
        mean(x, (6 * 71 + 4) / 2, 2);
        x.done(0, true);
        x.done(1, true);
        x.done(2, true);
        x.done(3, true);
        mean(x, 0, 1);
    }
}
