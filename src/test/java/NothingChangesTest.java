import java.util.Arrays;

/** What is answered by a number below 0 that refuses, and what is only asked, changes nothing. */
public final class NothingChangesTest {
    /** A call with its arguments. */
    private interface Call {
        long on(OneMourner x);
    }

    /** How an object is made. */
    private interface Way {
        OneMourner made();
    }

    private static final Way SOME = NothingChangesTest::some, FULL = NothingChangesTest::full;

    public static void main(String[] args) {
        Due.says("Answers", "What is answered so changes nothing");
        mourners();
        days();
        asked();
        tapes();
        fulls();
        fullIslands();
        newOnes();
        Due.says("Answers", "what is asked changes nothing");
        asks();
        Due.says("2", "All that follows is asked, goes on from how all is (DAYS beyond 9999, HURT beyond 99999, too; WAITED is"
            + " 99 at most), and changes nothing.");
        goesOn();
        Due.end();
    }

    private static void feed(OneMourner x, String text) {
        for (int i = 0; i < text.length(); i++) {
            x.feed(text.charAt(i));
        }
    }

    /** Something of all; two MOURNERS, 1 and 2, on THE LIST, 0 not. */
    private static OneMourner some() {
        OneMourner x = new OneMourner();
        x.mourner(6, 3, 41);
        x.mourner(1, 5, 20);
        x.mourner(5, 8, 77);
        x.list(2);
        x.list(1);
        x.row(0, 1, 8);
        x.set(0, 1, 2);
        x.set(1, 2, 600);
        x.see(1, 25, 4);
        x.plan(3, 1);
        x.plan(0, 0);
        x.book(1, 600);
        x.book(2, 0);
        feed(x, "ache 4 w>2;lost 5");
        x.island();
        x.image();
        x.pass(1);
        x.row(0, 2, 5);
        x.see(0, 30, 2);
        x.act(0, 2, 9);
        x.tape(0, 2, 4);
        x.item(0, 1, 600);
        x.tape(1, 0, 2);
        x.item(1, 1, 9);
        x.tape(2, 4, 0);
        x.tape(3, 2, 3);
        feed(x, "lost 7");
        return x;
    }

    /** As much as there can be of MOURNERS, THE LIST, SEEN, the PLAN, the BOOK and THE TEXT. */
    private static OneMourner full() {
        OneMourner x = new OneMourner();
        for (int p = 0; p < 6; p++) {
            x.mourner(p == 0 ? 6 : p % 6, p, 10 * p + 3);
            x.list(p);
        }
        for (int i = 0; i < 5; i++) {
            x.see(i, 10 * i + 3, 0);
        }
        for (int i = 0; i < 10; i++) {
            x.plan(i % 4, i % 6);
        }
        for (int i = 0; i < 8; i++) {
            x.book(i % 6, 0);
        }
        feed(x, "lost 2;".repeat(9) + "ache 5 ((p=1|p=2|p=3|p=4|p=5))&g<10  ");
        x.image();
        x.pass(1);
        return x;
    }

    /** The call's answer, and that all that can be seen is as without the call. */
    private static void due(Way way, String name, long want, Call call) {
        OneMourner x = way.made();
        OneMourner twin = way.made();
        Due.due(name, call.on(x), want);
        long[] is = Looks.at(x);
        Due.due(name + " changes nothing", Arrays.equals(is, Looks.at(twin)) ? 1 : 0, 1);
    }

    private static void mourners() {
        due(SOME, "mourner, kind", -1, x -> x.mourner(7, 0, 0));
        due(SOME, "mourner, v", -2, x -> x.mourner(0, 10, 0));
        due(SOME, "mourner, grief", -2, x -> x.mourner(0, 0, 100));
        due(SOME, "of nobody", -1, x -> x.of(3, 0));
        due(SOME, "set of nobody", -1, x -> x.set(3, 0, 1));
        due(SOME, "set, what", -1, x -> x.set(0, 3, 1));
        due(SOME, "set, grief", -2, x -> x.set(0, 0, 100));
        due(SOME, "set, waited", -2, x -> x.set(0, 1, -1));
        due(SOME, "set, hurt", -2, x -> x.set(0, 2, 100000));
        due(SOME, "done of nobody", -1, x -> x.done(3, true));
        due(SOME, "list of nobody", -1, x -> x.list(3));
        due(SOME, "list of -2", -1, x -> x.list(-2));
        due(SOME, "list of one on it", -3, x -> x.list(1));
        due(SOME, "swap of nobody", -1, x -> x.swap(3, 1));
        due(SOME, "swap with nobody", -1, x -> x.swap(1, 3));
        due(SOME, "swap of one", -2, x -> x.swap(1, 1));
        due(SOME, "swap of one off it", -3, x -> x.swap(0, 1));
        due(SOME, "swap with one off it", -3, x -> x.swap(1, 0));
        due(SOME, "row of nobody", -1, x -> x.row(3, 0, 1));
        due(SOME, "row, part", -1, x -> x.row(0, 4, 1));
        due(SOME, "row, n", -2, x -> x.row(0, 1, 10));
        due(SOME, "row of another kind", -3, x -> x.row(1, 1, 1));
        due(SOME, "feed, below 0", -2, x -> x.feed(-1));
        due(SOME, "feed, above 127", -2, x -> x.feed(128));
        due(SOME, "told, what", -1, x -> x.told(9));
    }

    private static void days() {
        due(SOME, "pass of 61", -2, x -> x.pass(61));
        due(SOME, "pass of -1", -2, x -> x.pass(-1));
        due(() -> Made.onDay(9990, 0, 0, 5, 1, 0, 6), "pass beyond 9999", -3, x -> x.pass(10));
        due(SOME, "on, what", -1, x -> x.on(5, 2));
        due(SOME, "on, nobody", -1, x -> x.on(5, 13));
        due(SOME, "on, n", -2, x -> x.on(61, 0));
        due(SOME, "turn of nobody", -1, x -> x.turn(3));
        due(SOME, "best, what", -1, x -> x.best(2, 0));
        due(SOME, "best, k", -1, x -> x.best(0, 6));
    }

    private static void asked() {
        due(SOME, "see of nobody", -1, x -> x.see(3, 0, 0));
        due(SOME, "see, pain", -2, x -> x.see(0, 1000, 0));
        due(SOME, "see, n", -2, x -> x.see(0, 0, 21));
        due(SOME, "see of -2", -1, x -> x.see(-2, 0, 0));
        due(SOME, "can of nobody", -1, x -> x.can(3, 0, 0));
        due(SOME, "can, which", -1, x -> x.can(0, 3, 0));
        due(SOME, "can, what", -1, x -> x.can(0, 0, 2));
        due(SOME, "odds, q", OneMourner.NO, x -> x.odds(10000, 0));
        due(SOME, "odds, part", OneMourner.NO, x -> x.odds(0, 2));
        due(SOME, "mean, part", OneMourner.NO, x -> x.mean(2));
        due(SOME, "plan, what", -1, x -> x.plan(4, 0));
        due(SOME, "plan, -2", -1, x -> x.plan(-2, 0));
        due(SOME, "plan of nobody", -1, x -> x.plan(1, 3));
        due(SOME, "ends, what", -1, x -> x.ends(2));
        due(SOME, "book of nobody", -1, x -> x.book(3, 0));
        due(SOME, "book, hurt", -2, x -> x.book(0, 100000));
        due(SOME, "book of -2", -1, x -> x.book(-2, 0));
        due(SOME, "trace, below 0", -1, x -> x.trace(-1));
        due(SOME, "trace, beyond", -1, x -> x.trace(12));
        due(SOME, "taken, k", -2, x -> x.taken(0, 7));
        due(SOME, "taken of nobody", -11, x -> x.taken(3, 0));
        due(SOME, "taken for another kind", -12, x -> x.taken(0, 1));
        due(SOME, "count, what", -2, x -> x.count(8));
    }

    private static void tapes() {
        due(SOME, "judge of tape 6", -1, x -> x.judge(6, 0));
        due(SOME, "judge of bytes", -12, x -> x.judge(1, 0));
        due(SOME, "tape 6", -1, x -> x.tape(6, 0, 1));
        due(SOME, "tape, sort", -2, x -> x.tape(0, 5, 1));
        due(SOME, "tape, sort -2", -2, x -> x.tape(0, -2, 1));
        due(SOME, "tape, n", -2, x -> x.tape(0, 0, 61));
        due(SOME, "tape, size", -14, x -> x.tape(0, 0, -1));
        due(SOME, "item of tape 6", -1, x -> x.item(6, 0, 1));
        due(SOME, "item of nothing", -11, x -> x.item(4, 0, 1));
        due(SOME, "item at 4", -13, x -> x.item(0, 4, 1));
        due(SOME, "item at -1", -13, x -> x.item(0, -1, 1));
        due(SOME, "item of an empty row", -13, x -> x.item(2, 0, 1));
        due(SOME, "read of tape 6", OneMourner.NO, x -> x.read(6, 0));
        due(SOME, "read of nothing", OneMourner.NO, x -> x.read(4, 0));
        due(SOME, "read at 4", OneMourner.NO, x -> x.read(0, 4));
        due(SOME, "shift of tape 6", -1, x -> x.shift(6, 0, 0, 0, 1));
        due(SOME, "shift to tape 6", -1, x -> x.shift(0, 0, 6, 0, 1));
        due(SOME, "shift of nothing", -11, x -> x.shift(4, 0, 0, 0, 1));
        due(SOME, "shift to nothing", -11, x -> x.shift(0, 0, 4, 0, 1));
        due(SOME, "shift of unlike sorts", -12, x -> x.shift(0, 0, 1, 0, 1));
        due(SOME, "shift beyond the one", -13, x -> x.shift(0, 1, 3, 0, 4));
        due(SOME, "shift beyond the other", -13, x -> x.shift(0, 0, 3, 0, 4));
        due(SOME, "shift beyond the other from 1 on", -13, x -> x.shift(0, 1, 3, 1, 3));
        due(SOME, "shift beyond the same", -13, x -> x.shift(0, 0, 0, 1, 4));
        due(SOME, "shift, n", -13, x -> x.shift(0, 1, 3, 0, -1));
        due(SOME, "shift, i", -13, x -> x.shift(0, -1, 3, 0, 2));
        due(SOME, "shift, j", -13, x -> x.shift(0, 1, 3, -1, 2));
    }

    private static void fulls() {
        due(FULL, "a seventh mourner", -4, x -> x.mourner(6, 9, 99));
        due(FULL, "list", -3, x -> x.list(5));
        due(FULL, "a sixth seen", -4, x -> x.see(4, 999, 20));
        due(FULL, "an eleventh of the plan", -4, x -> x.plan(1, 5));
        due(FULL, "a ninth of the book", -4, x -> x.book(5, 99999));
        due(FULL, "byte 101", -4, x -> x.feed('x'));
    }

    private static OneMourner sixIslands() {
        OneMourner x = new OneMourner();
        x.mourner(0, 0, 7);
        x.image();
        for (int i = 2; i < 8; i++) {
            feed(x, "lost " + i);
            x.island();
        }
        feed(x, "lost 9;ache 3 p=0");
        return x;
    }

    private static void fullIslands() {
        due(NothingChangesTest::sixIslands, "a seventh island", -4, OneMourner::island);
    }

    private static void newOnes() {
        due(OneMourner::new, "undo without an image", -3, OneMourner::undo);
        due(() -> Made.of(0, 0, 5, 1, 1, 6), "undo without an image", -3, OneMourner::undo);
        due(OneMourner::new, "of nobody", -1, x -> x.of(0, 0));
        due(OneMourner::new, "list of nobody", -1, x -> x.list(0));
        due(OneMourner::new, "judge of nobody", -5, x -> x.judge(0, 0));
    }

    private static void asks() {
        for (int what = 0; what <= 7; what++) {
            int w = what;
            same("of " + w, x -> x.of(0, w));
            same("count " + w, x -> x.count(w));
            same("told " + (w + 1), x -> x.told(w + 1));
        }
        same("told 0", x -> x.told(0));
        same("looked", OneMourner::looked);
        same("trace", x -> x.trace(0));
        same("taken", x -> x.taken(0, 3));
        same("read", x -> x.read(0, 1));
        same("judge", x -> x.judge(0, 0));
        same("judge of nothing", x -> x.judge(4, 0));
        same("image taken twice, as nothing was between", x -> {
            x.undo();
            return 0;
        }, x -> {
            x.undo();
            return x.image();
        });
    }

    private static void goesOn() {
        for (int n = 0; n <= 60; n += 20) {
            int days = n;
            same("on " + n + " days, all", x -> x.on(days, 0));
            same("on " + n + " days, done", x -> x.on(days, 1));
            same("on " + n + " days, one", x -> x.on(days, 12));
        }
        for (int p = 0; p < 3; p++) {
            int one = p;
            same("turn of " + p, x -> x.turn(one));
            for (int i = 0; i < 6; i++) {
                int which = i / 2;
                int what = i % 2;
                same("can of " + p + ", " + i, x -> x.can(one, which, what));
            }
        }
        for (int i = 0; i < 14; i++) {
            int what = i / 7;
            int k = i % 7 - 1;
            same("best " + what + ", " + k, x -> x.best(what, k));
        }
        same("empty", OneMourner::empty);
        same("odds", x -> x.odds(300, 0) + x.odds(300, 1));
        same("mean", x -> x.mean(0) + x.mean(1));
        same("ends, hurt", x -> x.ends(0));
        same("ends, done", x -> x.ends(1));
    }

    private static void same(String name, Call asked) {
        same(name, x -> 0, asked);
    }

    /** That all that can be seen is alike behind either call, in an object of each way. */
    private static void same(String name, Call one, Call other) {
        for (Way way : new Way[] {SOME, FULL, NothingChangesTest::sixIslands}) {
            OneMourner x = way.made();
            OneMourner twin = way.made();
            one.on(twin);
            other.on(x);
            Due.due(name + " changes nothing", Arrays.equals(Looks.at(x), Looks.at(twin)) ? 1 : 0, 1);
        }
    }
}
