/** Promises 21 to 24: plans and books. */
public final class PlansBooksTest {
    public static void main(String[] args) {
        plan();
        ends();
        book();
        looked();
        Due.end();
    }

    private static void plan() {
        OneMourner x = new OneMourner();
        Due.due("-1", x.plan(-1, 99), 0);
        Due.due("a day, whoever", x.plan(0, -7), 1);
        Due.due("nobody", x.plan(1, 0), -1);
        x.mourner(0, 0, 10);
        Due.due("what 4", x.plan(4, 0), -1);
        Due.due("what -2", x.plan(-2, 0), -1);
        Due.due("mourner 1", x.plan(2, 1), -1);
        Due.due("mourner -1", x.plan(3, -1), -1);
        for (int i = 2; i <= 10; i++) {
            Due.due("plan", x.plan(i % 4, 0), i);
        }
        Due.due("an eleventh", x.plan(0, 0), -4);
        Due.due("what ahead of full", x.plan(4, 0), -1);
        Due.due("mourner ahead of full", x.plan(1, 1), -1);
        Due.due("how many", x.count(4), 10);
        Due.due("none then", x.plan(-1, 0), 0);
        Due.due("none", x.count(4), 0);
        Due.due("again", x.plan(1, 0), 1);
    }

    private static void ends(OneMourner x, String plan, long hurt, long done) {
        Due.due(plan + ": hurt", x.ends(0), hurt);
        Due.due(plan + ": done", x.ends(1), done);
    }

    private static void ends() {
        OneMourner x = new OneMourner();
        x.mourner(0, 0, 10);
        x.mourner(1, 0, 85);
        Due.due("what 2", x.ends(2), -1);
        Due.due("what -1", x.ends(-1), -1);
        ends(x, "no plan", 0, 0);
        x.plan(3, 1);
        ends(x, "grief alone", 0, 0);
        x.plan(3, 1);
        x.plan(0, 0);
        // 105 is 99 at most
        ends(x, "a day", 10 + 99, 0);
        x.plan(1, 1);
        ends(x, "1 is done", 109, 1);
        x.plan(0, 0);
        ends(x, "a day of 0", 119, 1);
        x.plan(2, 1);
        ends(x, "1 is not done", 119, 0);
        x.plan(0, 0);
        ends(x, "a day of both, 1 waited one", 119 + 10 + 100, 0);
        x.list(0);
        // 0 has the first day, so 1 hurts on two days: 99 and 100
        ends(x, "0 on the list", 199, 1);
        x.set(1, 2, 99999);
        ends(x, "hurt beyond 99999", 99999 + 199, 1);
        x.plan(3, 0);
        x.plan(2, 0);
        x.plan(0, 0);
        // 0 is left again, so it has this day as well, and 1 hurts a third time
        ends(x, "0 is left again", 99999 + 199 + 101, 1);
        x.list(-1);
        // 0 hurts 10, 10, 10, and 20 on the last day
        ends(x, "nobody on the list", 99999 + 10 + 99 + 10 + 10 + 100 + 20 + 101, 0);
        x.list(0);
        Due.due("grief is as it was", x.of(1, 2), 85);
        Due.due("the day is as it was", x.told(0), 0);
        Due.due("nobody is done", x.told(4), 0);
        x.plan(-1, 0);
        x.plan(0, 0);
        Due.island(x, "lost 2", 0);
        x.pass(1);
        ends(x, "a lost day", 99999 + 86, 1);
    }

    private static void book() {
        OneMourner x = new OneMourner();
        Due.due("-1", x.book(-1, -1), 0);
        Due.due("nobody", x.book(0, 0), -1);
        x.mourner(0, 0, 10);
        Due.due("hurt 100000", x.book(0, 100000), -2);
        Due.due("hurt -1", x.book(0, -1), -2);
        Due.due("mourner ahead of hurt", x.book(1, -1), -1);
        Due.due("-2", x.book(-2, 0), -1);
        Due.due("greatest", x.book(0, 99999), 1);
        for (int i = 2; i <= 8; i++) {
            Due.due("book", x.book(0, 0), i);
        }
        Due.due("a ninth", x.book(0, 0), -4);
        Due.due("hurt ahead of full", x.book(0, -1), -2);
        Due.due("how many", x.count(5), 8);
        Due.due("none then", x.book(-1, 0), 0);
        Due.due("none", x.count(5), 0);
        Due.due("again", x.book(0, 5), 1);
    }

    private static void looked() {
        OneMourner x = new OneMourner();
        Due.due("nothing", x.looked(), -5);
        x.mourner(0, 0, 10);
        x.mourner(0, 0, 20);
        x.book(0, 0);
        Due.due("as told", x.looked(), -5);
        x.book(1, 0);
        x.book(1, 20);
        x.book(0, 10);
        Due.due("otherwise", x.looked(), 2);
        x.pass(1);
        Due.due("otherwise then", x.looked(), 0);
        x.set(0, 2, 0);
        Due.due("otherwise at 1", x.looked(), 1);
        x.set(1, 2, 0);
        Due.due("otherwise at 2", x.looked(), 2);
    }
}
