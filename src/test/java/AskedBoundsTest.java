/** The sentences of promises 17, 18 and 21 to 24, and of the terms on what is told by hand, that name a bound. */
public final class AskedBoundsTest {
    public static void main(String[] args) {
        see();
        seeNone();
        seeFull();
        seenNone();
        griefs();
        waits();
        cans();
        notBeingDone();
        seenDays();
        seenRows();
        canRefuses();
        plan();
        planNone();
        planFull();
        ends();
        endsGriefs();
        endsRefuses();
        book();
        bookNone();
        bookFull();
        looked();
        Due.end();
    }

    private static void see() {
        Due.says("2", "a MOURNER, its PAIN (0 .. 999) n DAYS (0 .. 20) from now, not being DONE by then (5 at most)");
        OneMourner x = Made.many(2);
        Due.due("the least", x.see(1, 0, 0), 1);
        Due.due("the most", x.see(0, 999, 20), 2);
        Due.says("Promise 17", "NONE; BAD: pain, n; FULL: 5.");
        for (int p : Made.beyondButOne(1)) {
            Due.due("see of " + p, x.see(p, 0, 0), -1);
            Due.due("see of " + p + " ahead of pain", x.see(p, 1000, 0), -1);
            Due.due("see of " + p + " ahead of n", x.see(p, 0, 21), -1);
        }
        for (int pain : Made.beyond(0, 999)) {
            Due.due("pain " + pain, x.see(0, pain, 0), -2);
        }
        for (int n : Made.beyond(0, 20)) {
            Due.due("n " + n, x.see(1, 999, n), -2);
        }
        Due.due("seen", x.count(3), 2);
        Due.due("see of nobody", new OneMourner().see(0, 0, 0), -1);
    }

    private static void seeNone() {
        Due.says("Promise 17", "(mourner -1: none then, 0, whatever the others are)");
        Due.due("without mourners", new OneMourner().see(-1, 0, 0), 0);
        OneMourner x = Made.of(0, 0, 7);
        int[] others = {0, 21, -1, 1000, Integer.MIN_VALUE, Integer.MAX_VALUE};
        for (int other : others) {
            x.see(0, 8, 0);
            Due.due("none", x.see(-1, other, 0), 0);
            Due.due("seen", x.count(3), 0);
            x.see(0, 8, 0);
            Due.due("none", x.see(-1, 0, other), 0);
            Due.due("seen", x.count(3), 0);
            Due.due("griefs", x.can(0, 0, 0), 100);
        }
        Due.due("again", x.see(0, 8, 0), 1);
    }

    private static void seeFull() {
        Due.says("Promise 17", "NONE; BAD: pain, n; FULL: 5.");
        OneMourner x = Made.of(0, 0, 7);
        for (int i = 1; i <= 5; i++) {
            Due.due("see", x.see(0, 7, i), i);
        }
        Due.due("a sixth", x.see(0, 8, 0), -4);
        Due.due("nobody ahead of full", x.see(1, 0, 0), -1);
        Due.due("pain ahead of full", x.see(0, 1000, 0), -2);
        Due.due("n ahead of full", x.see(0, 0, -1), -2);
        Due.due("the five are as they were", x.can(0, 0, 1), 7);
        Due.due("none", x.see(-1, 0, 0), 0);
        Due.due("again", x.see(0, 8, 0), 1);
    }

    /** GRIEFS, WAITS and CAN of one: how many, the least. */
    private static long[] can(OneMourner x, int mourner) {
        long[] can = new long[6];
        for (int i = 0; i < 6; i++) {
            can[i] = x.can(mourner, i / 2, i % 2);
        }
        return can;
    }

    private static void seenNone() {
        Due.says("2", "all of SEEN that is of it is so");
        OneMourner x = Made.of(0, 3, 50, 0, 4, 60);
        Due.row("nothing is seen", can(x, 0), 100, 0, 61, 0, 10, 0);
        x.see(1, 60, 0);
        Due.row("of another", can(x, 0), 100, 0, 61, 0, 10, 0);
        Due.row("of the one", can(x, 1), 1, 60, 61, 0, 10, 0);
        x.see(1, 60, 20);
        Due.row("twice so", can(x, 1), 1, 60, 61, 0, 10, 0);
        x.see(1, 61, 20);
        Due.row("not so at last", can(x, 1), 0, -5, 0, -5, 0, -5);
        x.see(0, 51, 0);
        x.see(0, 50, 1);
        Due.row("not so at first", can(x, 0), 0, -5, 0, -5, 0, -5);
        Due.row("all is as it was", new long[] {x.of(0, 1), x.of(0, 2), x.of(0, 3)}, 3, 50, 0);
    }

    private static void griefs() {
        Due.says("2", "GRIEFS of one: how many numbers (0 .. 99) there are by which, were that its GRIEF, all of SEEN that is"
            + " of it is so; the least (-5: none)");
        int[] pains = {0, 1, 98, 99, 100, 999};
        int[] many = {1, 1, 1, 1, 0, 0};
        int[] least = {0, 1, 98, 99, -5, -5};
        for (int i = 0; i < pains.length; i++) {
            OneMourner x = Made.of(0, 0, 50);
            x.see(0, pains[i], 0);
            Due.row("pain " + pains[i], new long[] {x.can(0, 0, 0), x.can(0, 0, 1)}, many[i], least[i]);
        }
        OneMourner x = Made.by("calm 90 p=0", 0, 0, 50);
        x.see(0, 0, 0);
        Due.row("0 to 90", can(x, 0), 91, 0, 61, 0, 10, 0);
        Due.island(x, "ache 9 p=0&g=9;calm 99 p=0&g<9", 1);
        Due.row("0 to 89, by the tests of it", can(x, 0), 90, 0, 61, 0, 10, 0);
        x.see(-1, 0, 0);
        x.see(0, 108, 0);
        Due.row("99, by the tests of it", can(x, 0), 1, 99, 0, -5, 0, -5);
    }

    private static void waits() {
        Due.says("2", "WAITS of one: how many numbers (0 .. 60), WAITED now, likewise; the least (-5: none)");
        int[] pains = {0, 1, 59, 60, 61, 99};
        int[] many = {1, 1, 1, 1, 0, 0};
        int[] least = {0, 1, 59, 60, -5, -5};
        for (int i = 0; i < pains.length; i++) {
            OneMourner x = Made.of(1, 0, 0);
            x.set(0, 1, 90);
            x.see(0, pains[i], 0);
            Due.row("pain " + pains[i], new long[] {x.can(0, 1, 0), x.can(0, 1, 1)}, many[i], least[i]);
            Due.due("waited is as it was", x.of(0, 3), 90);
        }
        OneMourner x = Made.of(1, 0, 0);
        x.see(0, 20, 20);
        Due.row("0, in 20 days", can(x, 0), 1, 0, 1, 0, 10, 0);
        x.see(-1, 0, 0);
        x.see(0, 80, 20);
        Due.row("60, in 20 days", can(x, 0), 1, 60, 1, 60, 0, -5);
        x.see(-1, 0, 0);
        x.see(0, 81, 20);
        Due.row("61 is none", new long[] {x.can(0, 1, 0), x.can(0, 1, 1)}, 0, -5);
    }

    private static void cans() {
        Due.says("2", "CAN of one: how many numbers v (0 .. 9) likewise; the least (-5: none).");
        int[] pains = {0, 1, 8, 9, 10};
        int[] many = {1, 1, 1, 1, 0};
        int[] least = {0, 1, 8, 9, -5};
        for (int i = 0; i < pains.length; i++) {
            OneMourner x = Made.of(4, 5, 0);
            x.see(0, pains[i], 0);
            Due.row("pain " + pains[i], new long[] {x.can(0, 2, 0), x.can(0, 2, 1)}, many[i], least[i]);
            Due.due("v is as it was", x.of(0, 1), 5);
        }
        OneMourner x = Made.of(3, 5, 20);
        x.set(0, 1, 8);
        x.see(0, 10, 0);
        Due.row("9 alone is above 8", new long[] {x.can(0, 2, 0), x.can(0, 2, 1)}, 1, 9);
        x.see(-1, 0, 0);
        x.see(0, 40, 0);
        Due.row("0 to 8 are not", new long[] {x.can(0, 2, 0), x.can(0, 2, 1)}, 9, 0);
        x.set(0, 1, 9);
        Due.row("0 to 9 are not above 9", new long[] {x.can(0, 2, 0), x.can(0, 2, 1)}, 10, 0);
    }

    private static void notBeingDone() {
        Due.says("2", "not being DONE by then");
        OneMourner x = Made.of(1, 0, 10);
        Made.list(x, 0);
        x.see(0, 13, 3);
        Due.row("it has the day ahead of then", can(x, 0), 1, 10, 1, 0, 10, 0);
        x.done(0, true);
        Due.row("it is done", can(x, 0), 1, 10, 1, 0, 10, 0);
        Due.says("2", "WAITED is 99 at most");
        x.set(0, 1, 90);
        x.see(-1, 0, 0);
        x.see(0, 109, 20);
        x.see(0, 109, 9);
        x.see(0, 108, 8);
        Due.row("99 in 9 days", new long[] {x.can(0, 0, 0), x.can(0, 0, 1)}, 1, 10);
        x.see(0, 110, 10);
        Due.row("not 100 in 10 days", new long[] {x.can(0, 0, 0), x.can(0, 0, 1)}, 0, -5);
    }

    private static void seenDays() {
        Due.says("2", "n DAYS (0 .. 20) from now");
        OneMourner x = Made.by("ache 30 d=0;ache 40 d=9", 0, 0, 1);
        x.pass(5);
        x.see(0, 6, 0);
        x.see(0, 46, 4);
        x.see(0, 36, 5);
        x.see(0, 36, 15);
        x.see(0, 6, 20);
        Due.row("from day 5 on", can(x, 0), 1, 6, 0, -5, 0, -5);
        x.see(-1, 0, 0);
        x.see(0, 1, 0);
        Due.row("now", can(x, 0), 1, 1, 61, 0, 10, 0);
        OneMourner y = Made.onDay(9999, 5, 0, 20);
        y.see(0, 0, 0);
        y.see(0, 19, 1);
        y.see(0, 0, 2);
        y.see(0, 1, 19);
        y.see(0, 0, 20);
        Due.row("beyond day 9999", can(y, 0), 1, 20, 1, 0, 10, 0);
    }

    private static void seenRows() {
        Due.says("2", "n DAYS (0 .. 20) from now");
        OneMourner x = Made.of(6, 0, 20);
        for (int part = 0; part < 4; part++) {
            x.row(0, part, 2 * part + 1);
        }
        x.pass(3);
        int[] pains = {47, 41, 43, 45, 47};
        for (int n = 0; n < 5; n++) {
            Due.due("see", x.see(0, pains[n], n), n + 1);
        }
        // it has waited 3 now, so that by a v above that it is half of 20 at first
        Due.row("the row from day 3 on", can(x, 0), 1, 20, 61, 0, 4, 0);
        x.pass(1);
        Due.row("the row from day 4 on", can(x, 0), 0, -5, 0, -5, 0, -5);
    }

    private static void canRefuses() {
        Due.says("Promise 18", "Of a MOURNER which 0 GRIEFS, 1 WAITS, 2 CAN: what 0 how many, 1 the least; -5. NONE.");
        OneMourner x = Made.many(3);
        for (int p : Made.beyond(0, 2)) {
            Due.due("can of " + p, x.can(p, 0, 0), -1);
        }
        for (int which : Made.beyond(0, 2)) {
            Due.due("which " + which, x.can(0, which, 0), -1);
        }
        for (int what : Made.beyond(0, 1)) {
            for (int which = 0; which <= 2; which++) {
                Due.due("what " + what + " of " + which, x.can(2, which, what), -1);
            }
        }
        Due.due("can of nobody", new OneMourner().can(0, 0, 0), -1);
    }

    private static void plan() {
        Due.says("Promise 21", "NONE: what (0 .. 3), mourner (but by 0)");
        OneMourner x = Made.many(2);
        for (int what : Made.beyondButOne(3)) {
            Due.due("what " + what, x.plan(what, 0), -1);
        }
        for (int p : Made.beyond(0, 1)) {
            for (int what = 1; what <= 3; what++) {
                Due.due("what " + what + " of " + p, x.plan(what, p), -1);
            }
        }
        Due.due("rows", x.count(4), 0);
        for (int what = 0; what <= 3; what++) {
            Due.due("what " + what, x.plan(what, 1), what + 1);
        }
        Due.says("Promise 21", "mourner (but by 0)");
        OneMourner y = new OneMourner();
        int rows = 0;
        for (int p : Made.beyond(0, 5)) {
            rows++;
            Due.due("a day, mourner " + p, y.plan(0, p), rows);
        }
        Due.due("without mourners", y.plan(1, 0), -1);
    }

    private static void planNone() {
        Due.says("Promise 21", "(what -1: it is empty then, 0, whatever the other is)");
        OneMourner x = Made.many(1);
        Due.due("of an empty one", x.plan(-1, 0), 0);
        for (int p : Made.beyond(0, 0)) {
            x.plan(1, 0);
            Due.due("mourner " + p, x.plan(-1, p), 0);
            Due.due("rows", x.count(4), 0);
            Due.due("done by it", x.ends(1), 0);
        }
        Due.due("without mourners", new OneMourner().plan(-1, 3), 0);
        Due.due("again", x.plan(1, 0), 1);
    }

    private static void planFull() {
        Due.says("2", "10 rows at most");
        OneMourner x = Made.of(0, 0, 5);
        for (int row = 1; row <= 10; row++) {
            Due.due("plan", x.plan(0, 0), row);
        }
        Due.due("ten days", x.ends(0), 50);
        Due.says("Promise 21", "FULL: 10.");
        Due.due("an eleventh", x.plan(1, 0), -4);
        Due.due("what ahead of full", x.plan(4, 0), -1);
        Due.due("mourner ahead of full", x.plan(1, 1), -1);
        Due.due("rows", x.count(4), 10);
        Due.due("as it was", x.ends(1), 0);
        Due.due("empty", x.plan(-1, 0), 0);
        Due.due("again", x.plan(0, 0), 1);
    }

    private static void ends() {
        Due.says("2", "what goes (0 a DAY, 1 one is DONE, 2 one is not");
        OneMourner x = Made.of(0, 0, 5, 0, 0, 6);
        x.set(0, 2, 100);
        Due.row("an empty plan", new long[] {x.ends(0), x.ends(1)}, 100, 0);
        x.plan(1, 0);
        x.plan(1, 0);
        Due.row("done twice", new long[] {x.ends(0), x.ends(1)}, 100, 1);
        x.plan(0, 0);
        Due.row("a day of the other", new long[] {x.ends(0), x.ends(1)}, 106, 1);
        x.plan(2, 0);
        x.plan(2, 0);
        Due.row("not done, twice", new long[] {x.ends(0), x.ends(1)}, 106, 0);
        x.plan(0, 0);
        Due.row("a day of both", new long[] {x.ends(0), x.ends(1)}, 117, 0);
        x.list(1);
        Due.row("1 has a day", new long[] {x.ends(0), x.ends(1)}, 105, 1);
        x.done(1, true);
        x.plan(1, 0);
        Due.row("all are done", new long[] {x.ends(0), x.ends(1)}, 105, 2);
        x.plan(0, 0);
        x.plan(0, 0);
        Due.row("days without anybody", new long[] {x.ends(0), x.ends(1)}, 105, 2);
        Due.row("without mourners", new long[] {new OneMourner().ends(0), new OneMourner().ends(1)}, 0, 0);
    }

    private static void endsGriefs() {
        Due.says("2", "3 GRIEF of one is 10 more (99 at most)");
        int[] griefs = {0, 88, 89, 90, 98, 99};
        int[] more = {10, 98, 99, 99, 99, 99};
        for (int i = 0; i < griefs.length; i++) {
            OneMourner x = Made.of(0, 0, griefs[i], 0, 0, 1);
            x.plan(3, 0);
            x.plan(0, 0);
            Due.due("grief " + griefs[i], x.ends(0), more[i] + 1);
            x.plan(3, 0);
            x.plan(0, 0);
            Due.due("grief " + griefs[i] + ", twice", x.ends(0), more[i] + Math.min(99, more[i] + 10) + 2);
            Due.due("grief is as it was", x.of(0, 2), griefs[i]);
        }
    }

    private static void endsRefuses() {
        Due.says("Promise 22", "ENDS: what 0 HURT, 1 DONE. NONE.");
        OneMourner x = Made.many(1);
        x.plan(0, 0);
        for (int what : Made.beyond(0, 1)) {
            Due.due("what " + what, x.ends(what), -1);
        }
    }

    private static void book() {
        Due.says("2", "A BOOK told by hand: MOURNERS, HURT (0 .. 99999; 8 at most)");
        OneMourner x = Made.many(2);
        Due.due("the least", x.book(1, 0), 1);
        Due.due("the most", x.book(0, 99999), 2);
        Due.says("Promise 23", "NONE; BAD: hurt; FULL: 8.");
        for (int p : Made.beyondButOne(1)) {
            Due.due("book of " + p, x.book(p, 0), -1);
            Due.due("book of " + p + " ahead of hurt", x.book(p, -1), -1);
        }
        for (int hurt : Made.beyond(0, 99999)) {
            Due.due("hurt " + hurt, x.book(1, hurt), -2);
        }
        Due.due("rows", x.count(5), 2);
        Due.due("book of nobody", new OneMourner().book(0, 0), -1);
    }

    private static void bookNone() {
        Due.says("Promise 23", "(mourner -1: it is empty then, 0, whatever the other is)");
        OneMourner x = Made.many(1);
        Due.due("of an empty one", x.book(-1, 0), 0);
        for (int hurt : Made.beyond(0, 99999)) {
            x.book(0, 7);
            Due.due("hurt " + hurt, x.book(-1, hurt), 0);
            Due.due("rows", x.count(5), 0);
            Due.due("looked", x.looked(), -5);
        }
        Due.due("without mourners", new OneMourner().book(-1, 3), 0);
        Due.due("again", x.book(0, 7), 1);
    }

    private static void bookFull() {
        Due.says("Promise 23", "NONE; BAD: hurt; FULL: 8.");
        OneMourner x = Made.many(1);
        for (int row = 1; row <= 8; row++) {
            Due.due("book", x.book(0, 0), row);
        }
        Due.due("a ninth", x.book(0, 5), -4);
        Due.due("nobody ahead of full", x.book(1, 0), -1);
        Due.due("hurt ahead of full", x.book(0, 100000), -2);
        Due.due("rows", x.count(5), 8);
        Due.due("the eight are as they were", x.looked(), -5);
        x.book(-1, 0);
        Due.due("again", x.book(0, 5), 1);
        Due.due("looked", x.looked(), 0);
    }

    private static void looked() {
        Due.says("2", "LOOKED at: the number of the first of these rows by which it is otherwise now (-5: none)");
        Due.due("without mourners", new OneMourner().looked(), -5);
        OneMourner x = Made.many(2);
        Due.due("an empty book", x.looked(), -5);
        x.set(0, 2, 99999);
        for (int row = 0; row < 4; row++) {
            x.book(0, 99999);
            x.book(1, 0);
        }
        Due.due("all as it is", x.looked(), -5);
        x.set(1, 2, 1);
        Due.due("from the second on", x.looked(), 1);
        x.set(0, 2, 99998);
        Due.due("all", x.looked(), 0);
        Due.says("Promise 24", "LOOKED at; -5.");
        x.set(1, 2, 0);
        x.book(-1, 0);
        for (int row = 0; row < 7; row++) {
            x.book(1, 0);
        }
        x.book(0, 99999);
        Due.due("the last", x.looked(), 7);
        x.set(0, 2, 99999);
        Due.due("none", x.looked(), -5);
    }
}
