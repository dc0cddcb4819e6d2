/** Promises 12 to 15: how days go, and what is asked of them. */
public final class DaysTest {
    public static void main(String[] args) {
        pass();
        lostDays();
        most();
        on();
        beyond();
        turn();
        empty();
        Due.end();
    }

    private static OneMourner three() {
        OneMourner x = new OneMourner();
        x.mourner(0, 0, 10);
        x.mourner(1, 0, 20);
        x.mourner(2, 0, 30);
        return x;
    }

    private static void pass() {
        OneMourner x = three();
        Due.due("-1", x.pass(-1), -2);
        Due.due("61", x.pass(61), -2);
        Due.due("0", x.pass(0), 0);
        x.list(1);
        Due.due("1", x.pass(1), 1);
        Due.due("1 is done", x.of(1, 5), 1);
        Due.due("1 did not hurt", x.of(1, 4), 0);
        Due.due("1 did not wait", x.of(1, 3), 0);
        Due.due("0 hurt", x.of(0, 4), 10);
        Due.due("2 hurt", x.of(2, 4), 30);
        Due.due("2 waited", x.of(2, 3), 1);
        Due.due("2", x.pass(2), 3);
        Due.due("0 hurt on", x.of(0, 4), 30);
        Due.due("2 hurt less and less", x.of(2, 4), 30 + 29 + 28);
        Due.due("who is done hurts no more", x.of(1, 4), 0);
        for (int i = 0; i < 166; i++) {
            x.pass(60);
        }
        Due.due("day", x.told(0), 9963);
        Due.due("beyond 9999", x.pass(37), -3);
        Due.due("bad ahead of state", x.pass(61), -2);
        Due.due("to 9999", x.pass(36), 9999);
        Due.due("one more", x.pass(1), -3);
        Due.due("none more", x.pass(0), 9999);
    }

    private static void lostDays() {
        OneMourner x = three();
        Due.island(x, "lost 3", 0);
        x.list(0);
        x.list(1);
        x.list(2);
        x.pass(2);
        Due.due("two are done", x.told(4), 2);
        Due.due("2 hurt", x.of(2, 4), 59);
        x.pass(1);
        Due.due("day 2 is lost", x.told(4), 2);
        Due.due("2 hurt on it", x.of(2, 4), 87);
        Due.due("2 waited", x.of(2, 3), 3);
        x.pass(1);
        Due.due("all are done", x.told(4), 3);
        Due.due("2 hurts no more", x.of(2, 4), 87);
    }

    private static void most() {
        OneMourner x = three();
        x.set(0, 2, 99985);
        x.set(1, 1, 97);
        x.pass(1);
        Due.due("hurt", x.of(0, 4), 99995);
        Due.due("waited", x.of(1, 3), 98);
        x.pass(1);
        Due.due("hurt at most", x.of(0, 4), 99999);
        x.pass(2);
        Due.due("waited at most", x.of(1, 3), 99);
        Due.due("pains by it", x.of(1, 4), 117 + 118 + 119 + 119);
    }

    private static void on() {
        OneMourner x = three();
        x.list(2);
        x.set(0, 2, 7);
        Due.due("now, all", x.on(0, 0), 7);
        Due.due("now, done", x.on(0, 1), 0);
        Due.due("now, one", x.on(0, 10), 7);
        Due.due("2 days, all", x.on(2, 0), 7 + 20 + 20 + 21);
        Due.due("2 days, done", x.on(2, 1), 1);
        Due.due("2 days, 1", x.on(2, 11), 41);
        Due.due("2 days, 2", x.on(2, 12), 0);
        Due.due("60 days, 0", x.on(60, 10), 607);
        Due.due("61", x.on(61, 0), -2);
        Due.due("-1", x.on(-1, 12), -2);
        Due.due("what 2", x.on(0, 2), -1);
        Due.due("what 9", x.on(0, 9), -1);
        Due.due("what -1", x.on(0, -1), -1);
        Due.due("what 13", x.on(0, 13), -1);
        Due.due("what ahead of n", x.on(61, 13), -1);
        Due.due("least what", x.on(0, Integer.MIN_VALUE), -1);
        Due.due("the day is as it was", x.told(0), 0);
        Due.due("hurt is as it was", x.told(3), 7);
        Due.due("done is as it was", x.told(4), 0);
    }

    private static void beyond() {
        OneMourner x = new OneMourner();
        x.mourner(5, 0, 50);
        for (int i = 0; i < 166; i++) {
            x.pass(60);
        }
        x.pass(39);
        x.set(0, 2, 99999);
        x.set(0, 1, 0);
        Due.due("hurt beyond 99999, on days beyond 9999", x.on(4, 0), 99999 + 49 + 47);
        Due.due("of one", x.on(4, 10), 99999 + 49 + 47);
        x.mourner(1, 0, 0);
        x.set(1, 1, 98);
        Due.due("waited is 99 at most", x.on(3, 11), 98 + 99 + 99);
    }

    private static void turn() {
        OneMourner x = three();
        Due.due("not on the list", x.turn(0), -5);
        Due.due("nobody", x.turn(3), -1);
        Due.due("-1", x.turn(-1), -1);
        Due.island(x, "lost 2", 0);
        x.list(2);
        x.list(1);
        x.list(0);
        Due.due("the first", x.turn(2), 1);
        Due.due("the second", x.turn(1), 3);
        Due.due("the third", x.turn(0), 5);
        x.done(2, true);
        Due.due("the second, as the first is done", x.turn(1), 1);
        Due.due("done", x.turn(2), 0);
        x.done(2, false);
        x.pass(1);
        Due.due("a lost day ahead", x.turn(1), 2);
        Due.due("nothing changes", x.told(0), 1);
    }

    private static void empty() {
        OneMourner x = new OneMourner();
        Due.due("no mourners", x.empty(), 0);
        x = three();
        Due.due("none on the list", x.empty(), -5);
        x.list(0);
        x.list(1);
        Due.due("one is not on the list", x.empty(), -5);
        x.list(2);
        Due.due("all", x.empty(), 3);
        Due.island(x, "lost 3", 0);
        Due.due("a lost day between", x.empty(), 4);
        x.done(1, true);
        Due.due("two", x.empty(), 2);
        x.done(0, true);
        x.done(2, true);
        Due.due("all are done", x.empty(), 0);
        Due.due("nothing changes", x.told(0), 0);
    }
}
