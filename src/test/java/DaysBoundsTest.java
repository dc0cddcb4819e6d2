/** The sentences of promises 12 to 15, and of the terms on PAIN, DAYS, ON, TURN and EMPTY, that name a bound. */
public final class DaysBoundsTest {
    public static void main(String[] args) {
        painNotBelowNone();
        broodersMenders();
        savers();
        halves();
        mothersChildren();
        toldOnes();
        dayGoes();
        lostDayGoes();
        mostHurt();
        mostWaited();
        aheadOfIt();
        pass();
        lastDay();
        beyondLastDay();
        beyondMostHurt();
        waitedAtMost();
        byAllThatIsTheirs();
        on();
        onRefuses();
        turn();
        turnRefuses();
        empty();
        Due.end();
    }

    /** PAIN of one on a DAY that has WAITED so long, as an ISLAND that calms so much holds. */
    private static int pain(int kind, int v, int grief, int waited, int day, int calm) {
        OneMourner x = Made.onDay(day, kind, v, grief);
        x.set(0, 1, waited);
        Due.island(x, "calm " + calm + " p=0", 0);
        return x.of(0, 7);
    }

    private static void painNotBelowNone() {
        Due.says("1 MOURNERS", "(0 at least in the end)");
        for (int kind = 0; kind <= 6; kind++) {
            Due.due("kind " + kind + " by 0", pain(kind, 0, 0, 0, 0, 0), 0);
            Due.due("kind " + kind + " by -99", pain(kind, 9, 0, 0, 0, 99), 0);
        }
        Due.due("a mourner by 1", pain(0, 9, 31, 5, 0, 30), 1);
        Due.due("a mourner by 0", pain(0, 9, 30, 5, 0, 30), 0);
        Due.due("a mourner by -1", pain(0, 9, 29, 5, 0, 30), 0);
        // in the end: what comes to a SUM below 0 is not lost by it
        Due.due("a brooder by -5 and 6", pain(1, 9, 5, 6, 0, 10), 1);
        Due.due("a mother by -5, 6 and 9", pain(4, 9, 5, 6, 0, 10), 10);
        Due.due("a mother by -15, 5 and 9", pain(4, 9, 5, 5, 0, 20), 0);
    }

    private static void broodersMenders() {
        Due.says("1 MOURNERS", "BROODER: SUM and WAITED. MENDER: SUM less WAITED.");
        Due.due("a brooder who has not waited", pain(1, 9, 99, 0, 0, 0), 99);
        Due.due("a brooder who waited most", pain(1, 9, 99, 99, 0, 0), 198);
        Due.due("a mender who has not waited", pain(2, 9, 99, 0, 0, 0), 99);
        Due.due("a mender who waited 98", pain(2, 9, 99, 98, 0, 0), 1);
        Due.due("a mender who waited most", pain(2, 9, 99, 99, 0, 0), 0);
        Due.due("a mender who waited more than that", pain(2, 9, 98, 99, 0, 0), 0);
    }

    private static void savers() {
        Due.says("1 MOURNERS", "SAVER: the half (cut toward 0) of SUM, if WAITED is less than v, else twice SUM.");
        for (int kind = 3; kind <= 6; kind += 3) {
            Due.due("less than v", pain(kind, 4, 40, 3, 0, 0), 20);
            Due.due("as much as v", pain(kind, 4, 40, 4, 0, 0), 80);
            Due.due("more than v", pain(kind, 4, 40, 5, 0, 0), 80);
            Due.due("v 0", pain(kind, 0, 40, 0, 0, 0), 80);
            Due.due("v 1, not waited", pain(kind, 1, 40, 0, 0, 0), 20);
            Due.due("v 9, waited 8", pain(kind, 9, 99, 8, 0, 0), 49);
            Due.due("v 9, waited 9", pain(kind, 9, 99, 9, 0, 0), 198);
            Due.due("half of 1", pain(kind, 9, 1, 0, 0, 0), 0);
        }
    }

    /** What the half of a SUM below 0 is shows in a TOLD one's ROW alone. */
    private static void halves() {
        Due.says("1 MOURNERS", "the half (cut toward 0) of SUM");
        int[] calms = {10, 11, 12, 13, 18, 28, 29, 30};
        int[] pains = {9, 9, 8, 8, 5, 0, 0, 0};
        int[] twice = {9, 7, 5, 3, 0, 0, 0, 0};
        for (int i = 0; i < calms.length; i++) {
            OneMourner x = Made.by("calm " + calms[i] + " p=0", 6, 5, 10);
            x.row(0, 0, 9);
            Due.due("the half of " + (10 - calms[i]) + ", and 9", x.of(0, 7), pains[i]);
            x.set(0, 1, 5);
            Due.due("twice " + (10 - calms[i]) + ", and 9", x.of(0, 7), twice[i]);
        }
    }

    private static void mothersChildren() {
        Due.says("1 MOURNERS", "MOTHER: as BROODER, and v.");
        Due.due("v 0", pain(4, 0, 50, 7, 0, 0), 57);
        Due.due("v 9", pain(4, 9, 50, 7, 0, 0), 66);
        Due.due("the most", pain(4, 9, 99, 99, 0, 0), 207);
        Due.says("1 MOURNERS", "CHILD: as MENDER; 0, if DAY is odd.");
        int[] days = {0, 1, 2, 3, 9998, 9999};
        for (int day : days) {
            Due.due("a child on day " + day, pain(5, 9, 50, 7, day, 0), day % 2 == 0 ? 43 : 0);
        }
        Due.due("a child who waited too long", pain(5, 9, 50, 51, 0, 0), 0);
        OneMourner x = Made.onDay(9999, 5, 0, 50);
        Due.row("a child beyond day 9999", new long[] {x.on(1, 10), x.on(2, 10), x.on(3, 10), x.on(4, 10)},
            0, 49, 49, 96);
    }

    private static void toldOnes() {
        Due.says("1 MOURNERS", "TOLD: as SAVER, and its ROW (four numbers 0 .. 9; 0 at first) at DAY modulo 4 more.");
        OneMourner x = Made.of(6, 0, 20);
        for (int part = 0; part < 4; part++) {
            x.row(0, part, 9 - part);
        }
        for (int day = 0; day < 9; day++) {
            Due.due("day " + day, x.of(0, 7), 40 + 9 - day % 4);
            x.pass(1);
        }
        OneMourner y = Made.onDay(9998, 6, 0, 0);
        y.row(0, 0, 1);
        y.row(0, 3, 5);
        Due.row("days 9998 to 10001", new long[] {y.on(1, 10), y.on(2, 10), y.on(3, 10), y.on(4, 10)}, 0, 5, 6, 6);
    }

    private static long[] of(OneMourner x, int what) {
        long[] of = new long[x.count(0)];
        for (int p = 0; p < of.length; p++) {
            of[p] = x.of(p, what);
        }
        return of;
    }

    private static void dayGoes() {
        Due.says("1 MOURNERS", "the first of THE LIST who is not DONE has it (if there is one), and is DONE; of each other"
            + " one who is not DONE");
        OneMourner x = Made.of(0, 0, 10, 0, 0, 20, 0, 0, 30, 0, 0, 40);
        x.pass(1);
        Due.row("nobody on the list: hurt", of(x, 4), 10, 20, 30, 40);
        Due.row("nobody on the list: waited", of(x, 3), 1, 1, 1, 1);
        Due.row("nobody on the list: done", of(x, 5), 0, 0, 0, 0);
        Made.list(x, 2, 1, 0);
        x.done(2, true);
        x.pass(1);
        Due.row("the first is done: hurt", of(x, 4), 20, 20, 30, 80);
        Due.row("the first is done: waited", of(x, 3), 2, 1, 1, 2);
        Due.row("the first is done: done", of(x, 5), 0, 1, 1, 0);
        x.pass(1);
        Due.row("the last: done", of(x, 5), 1, 1, 1, 0);
        Due.row("the last: hurt", of(x, 4), 20, 20, 30, 120);
        x.pass(1);
        Due.row("all of the list are done: done", of(x, 5), 1, 1, 1, 0);
        Due.row("all of the list are done: hurt", of(x, 4), 20, 20, 30, 160);
        x.done(3, true);
        x.pass(60);
        Due.row("all are done: hurt", of(x, 4), 20, 20, 30, 160);
        Due.row("all are done: waited", of(x, 3), 2, 1, 1, 4);
        Due.due("the day", x.told(0), 64);
    }

    private static void lostDayGoes() {
        Due.says("1 MOURNERS", "(of all, if it is LOST) HURT is its PAIN more");
        OneMourner x = Made.by("lost 3", 0, 0, 10, 0, 0, 20, 0, 0, 30);
        Made.list(x, 0, 1, 2);
        x.pass(2);
        x.done(0, false);
        Due.row("ahead of the lost day", of(x, 4), 0, 20, 60);
        x.pass(1);
        Due.row("hurt by it", of(x, 4), 10, 20, 90);
        Due.row("waited by it", of(x, 3), 1, 1, 3);
        Due.row("nobody is done by it", of(x, 5), 0, 1, 0);
        x.pass(1);
        Due.row("the first is done by the next", of(x, 5), 1, 1, 0);
    }

    private static void mostHurt() {
        Due.says("1 MOURNERS", "HURT is its PAIN more (99999 at most)");
        OneMourner x = Made.of(0, 0, 10, 0, 0, 10, 0, 0, 10, 0, 0, 0);
        x.set(0, 2, 99988);
        x.set(1, 2, 99989);
        x.set(2, 2, 99990);
        x.set(3, 2, 99999);
        x.pass(1);
        Due.row("hurt", of(x, 4), 99998, 99999, 99999, 99999);
        x.pass(60);
        Due.row("hurt no more", of(x, 4), 99999, 99999, 99999, 99999);
        Due.due("hurt of all", x.told(3), 399996);
    }

    private static void mostWaited() {
        Due.says("1 MOURNERS", "WAITED 1 more (99 at most)");
        OneMourner x = Made.of(1, 0, 0, 1, 0, 0, 1, 0, 0);
        x.set(0, 1, 97);
        x.set(1, 1, 98);
        x.set(2, 1, 99);
        x.pass(1);
        Due.row("waited", of(x, 3), 98, 99, 99);
        Due.row("hurt by it", of(x, 4), 97, 98, 99);
        x.pass(1);
        Due.row("waited then", of(x, 3), 99, 99, 99);
        x.pass(60);
        Due.row("waited no more", of(x, 3), 99, 99, 99);
        Due.row("hurt by that", of(x, 4), 97 + 98 + 60 * 99, 98 + 99 + 60 * 99, 99 + 99 + 60 * 99);
    }

    private static void aheadOfIt() {
        Due.says("1 MOURNERS", "A DAY goes, by how all is ahead of it");
        OneMourner x = Made.by("ache 5 d=0;ache 30 d=1", 1, 0, 10, 3, 1, 40, 5, 0, 8);
        x.pass(1);
        Due.row("pains of day 0", of(x, 4), 15, 22, 13);
        x.pass(1);
        Due.row("pains of days 0 and 1", of(x, 4), 15 + 41, 22 + 140, 13);
        Due.says("1 MOURNERS", "DAY is 1 more.");
        Due.due("day", x.told(0), 2);
    }

    private static void pass() {
        OneMourner x = Made.of(0, 0, 1);
        Due.says("Promise 12", "n DAYS (0 .. 60) go: DAY.");
        Due.due("0", x.pass(0), 0);
        Due.due("hurt by none", x.of(0, 4), 0);
        Due.due("waited by none", x.of(0, 3), 0);
        Due.due("60", x.pass(60), 60);
        Due.due("hurt by 60", x.of(0, 4), 60);
        Due.due("waited by 60", x.of(0, 3), 60);
        Due.due("1", x.pass(1), 61);
        Due.says("Promise 12", "BAD; STATE: it would be above 9999.");
        for (int n : Made.beyond(0, 60)) {
            Due.due("pass of " + n, x.pass(n), -2);
        }
        Due.due("day", x.told(0), 61);
    }

    private static void lastDay() {
        Due.says("Promise 12", "BAD; STATE: it would be above 9999.");
        OneMourner x = Made.onDay(9939, 0, 0, 1);
        Due.due("to 9999 by 60", x.pass(60), 9999);
        Due.due("hurt", x.of(0, 4), 60);
        Due.due("0 on day 9999", x.pass(0), 9999);
        Due.due("1 on day 9999", x.pass(1), -3);
        Due.due("60 on day 9999", x.pass(60), -3);
        Due.due("bad ahead of state", x.pass(61), -2);
        Due.due("below 0 ahead of state", x.pass(-1), -2);
        Due.due("hurt no more", x.of(0, 4), 60);
        Due.due("waited no more", x.of(0, 3), 60);
        OneMourner y = Made.onDay(9940, 0, 0, 1);
        Due.due("to 10000 by 60", y.pass(60), -3);
        Due.due("none of it goes", y.told(0), 9940);
        Due.due("hurt by none of it", y.of(0, 4), 0);
        Due.due("to 9999 by 59", y.pass(59), 9999);
    }

    private static void beyondLastDay() {
        Due.says("2", "goes on from how all is (DAYS beyond 9999, HURT beyond 99999, too; WAITED is 99 at most)");
        OneMourner x = Made.onDay(9999, 0, 0, 7, 0, 0, 5);
        Due.island(x, "lost 2;ache 10 d=1", 0);
        Made.list(x, 1, 0);
        // 9999 and 10001 are LOST
        Due.due("turn of the first", x.turn(1), 2);
        Due.due("turn of the second", x.turn(0), 4);
        Due.due("empty", x.empty(), 4);
        Due.due("on, hurt", x.on(60, 0), 5 + 7 + 7 + 17);
        Due.due("on, done", x.on(3, 1), 1);
        for (int row = 0; row < 4; row++) {
            x.plan(0, 0);
        }
        Due.due("ends, hurt", x.ends(0), 36);
        Due.due("ends, done", x.ends(1), 2);
        // all HURT on day 9999; who is second on 10000 and 10001, too
        Due.due("least", x.best(0, -1), 7 + 5 + 5 + 15);
        Due.due("dear by", x.told(8), 7 + 17);
        x.see(0, 17, 2);
        Due.row("can", new long[] {x.can(0, 0, 0), x.can(0, 0, 1)}, 1, 7);
        Due.due("day", x.told(0), 9999);
    }

    private static void beyondMostHurt() {
        Due.says("2", "goes on from how all is (DAYS beyond 9999, HURT beyond 99999, too; WAITED is 99 at most)");
        OneMourner x = Made.of(0, 0, 99, 0, 0, 1);
        x.set(0, 2, 99999);
        x.set(1, 2, 99998);
        Due.row("on", new long[] {x.on(1, 10), x.on(60, 10), x.on(2, 11), x.on(60, 0)},
            100098, 99999 + 60 * 99, 100000, 99999 + 60 * 99 + 99998 + 60);
        x.plan(0, 0);
        x.plan(0, 0);
        Due.due("ends", x.ends(0), 99999 + 198 + 99998 + 2);
        Due.due("hurt is as it was", x.told(3), 199997);
    }

    private static void waitedAtMost() {
        Due.says("2", "goes on from how all is (DAYS beyond 9999, HURT beyond 99999, too; WAITED is 99 at most)");
        OneMourner x = Made.of(1, 0, 0, 1, 0, 0, 0, 0, 0, 0, 0, 0);
        x.set(0, 1, 98);
        x.set(1, 1, 99);
        Due.row("on", new long[] {x.on(3, 10), x.on(60, 11), x.on(60, 10)}, 98 + 99 + 99, 60 * 99, 98 + 59 * 99);
        for (int row = 0; row < 10; row++) {
            x.plan(0, 0);
        }
        Due.due("ends", x.ends(0), 98 + 19 * 99);
        Due.due("dear", x.told(7), 1);
        Due.due("dear by", x.told(8), 3 * 99);
        Due.due("least", x.best(0, -1), 98);
        x.done(1, true);
        Due.due("dear by then", x.told(8), 98 + 99);
    }

    private static void byAllThatIsTheirs() {
        Due.says("2", "goes on from how all is");
        OneMourner x = Made.of(3, 2, 20, 4, 9, 20, 6, 1, 20, 5, 0, 20);
        x.row(2, 1, 4);
        x.set(1, 1, 30);
        x.set(3, 2, 77);
        int[] three = {10 + 10 + 40, 59 + 60 + 61, 10 + 44 + 40, 77 + 20 + 18};
        for (int p = 0; p < 4; p++) {
            Due.due("on 3 days, of " + p, x.on(3, 10 + p), three[p]);
            for (int which = 0; which < 3; which++) {
                x.can(p, which, 0);
            }
            Due.due("on 3 days, of " + p + ", whatever it could have", x.on(3, 10 + p), three[p]);
        }
    }

    private static void on() {
        Due.says("2", "ON n DAYS (0 .. 60): HURT of all, together; of one; how many are DONE.");
        OneMourner x = Made.of(0, 0, 3, 0, 0, 4, 0, 0, 5, 0, 0, 6, 0, 0, 7, 0, 0, 8);
        x.set(5, 2, 100);
        Made.list(x, 0, 1, 2, 3, 4, 5);
        Due.row("on 0 days", new long[] {x.on(0, 0), x.on(0, 1), x.on(0, 10), x.on(0, 15)}, 100, 0, 0, 100);
        Due.row("on 1 day", new long[] {x.on(1, 0), x.on(1, 1), x.on(1, 10), x.on(1, 15)}, 130, 1, 0, 108);
        Due.row("on 60 days", new long[] {x.on(60, 0), x.on(60, 1), x.on(60, 10), x.on(60, 15)},
            100 + 4 + 10 + 18 + 28 + 40, 6, 0, 140);
        x.list(-1);
        Due.row("on 60 days without the list", new long[] {x.on(60, 0), x.on(60, 1), x.on(60, 10), x.on(60, 15)},
            60 * 33 + 100, 0, 180, 580);
        Due.row("without mourners", new long[] {new OneMourner().on(60, 0), new OneMourner().on(60, 1)}, 0, 0);
    }

    private static void onRefuses() {
        Due.says("Promise 13", "what 0 HURT of all, 1 how many are DONE, 10 and p HURT of MOURNER p. NONE; BAD: n.");
        OneMourner x = Made.many(2);
        for (int what = 2; what < 10; what++) {
            Due.due("what " + what, x.on(1, what), -1);
            Due.due("what " + what + " ahead of n", x.on(61, what), -1);
        }
        for (int what = 12; what < 17; what++) {
            Due.due("what " + what, x.on(1, what), -1);
        }
        for (int what : Made.beyond(0, 11)) {
            Due.due("what " + what, x.on(0, what), -1);
            Due.due("what " + what + " ahead of n", x.on(-1, what), -1);
        }
        for (int n : Made.beyond(0, 60)) {
            Due.due("n " + n, x.on(n, 0), -2);
            Due.due("n " + n + " of one", x.on(n, 11), -2);
        }
        Due.due("of nobody", new OneMourner().on(0, 10), -1);
        Due.due("the sixth", Made.many(6).on(0, 15), 0);
        Due.due("a seventh", Made.many(6).on(0, 16), -1);
    }

    private static void turn() {
        Due.says("2", "TURN of one: the fewest DAYS (0 .. 60) behind which it is DONE (-5: not by then).");
        OneMourner x = Made.by("lost 2", new int[18]);
        for (int p = 0; p < 6; p++) {
            Due.due("off the list", x.turn(p), -5);
        }
        x.done(3, true);
        Due.due("done already", x.turn(3), 0);
        x.done(3, false);
        Made.list(x, 0, 1, 2, 3, 4, 5);
        for (int p = 0; p < 6; p++) {
            Due.due("turn of " + p, x.turn(p), 2 * p + 1);
        }
        x.pass(1);
        x.done(0, false);
        for (int p = 0; p < 6; p++) {
            Due.due("turn of " + p + " from a lost day on", x.turn(p), 2 * p + 2);
        }
        Due.due("day", x.told(0), 1);
        Due.due("done", x.told(4), 0);
    }

    private static void turnRefuses() {
        Due.says("Promise 14", "TURN; -5. NONE.");
        OneMourner x = Made.many(5);
        Made.list(x, 0, 1, 2, 3, 4);
        for (int p : Made.beyond(0, 4)) {
            Due.due("turn of " + p, x.turn(p), -1);
        }
        Due.due("turn of nobody", new OneMourner().turn(0), -1);
    }

    private static void empty() {
        Due.says("2", "EMPTY: the fewest DAYS (0 .. 60) behind which all are DONE (-5: not by then).");
        Due.due("without mourners", new OneMourner().empty(), 0);
        OneMourner x = Made.by("lost 2", new int[18]);
        Due.says("Promise 15", "EMPTY; -5.");
        Due.due("nobody on the list", x.empty(), -5);
        Made.list(x, 0, 1, 2, 3, 4);
        Due.due("one is off the list", x.empty(), -5);
        x.done(5, true);
        Due.due("who is off the list is done", x.empty(), 9);
        x.done(5, false);
        x.list(5);
        Due.due("all are on the list", x.empty(), 11);
        x.pass(1);
        x.done(0, false);
        Due.due("from a lost day on", x.empty(), 12);
        for (int p = 0; p < 6; p++) {
            x.done(p, true);
        }
        Due.due("all are done", x.empty(), 0);
    }
}
