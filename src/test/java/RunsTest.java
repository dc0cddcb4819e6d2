import java.util.Random;

/** Long runs of calls, drawn from fixed seeds, answered by the program and by the Oracle. */
public final class RunsTest {
    private static final int RUNS = 1500, CALLS = 512;
    private static final int[] FAR = {Integer.MIN_VALUE, Integer.MAX_VALUE, -5, 1000000, -1000, 62, 10000};
    /** The calls by number, and how often each is drawn. */
    private static final String[] NAMES = {
        "mourner", "of", "set", "done", "list", "swap", "row", "island", "told", "pass", "on", "turn", "empty", "best",
        "see", "can", "odds", "mean", "plan", "ends", "book", "looked", "judge", "image", "undo", "act", "trace",
        "taken", "count", "tape", "item", "read", "shift", "feed", "agreed",
    };
    private static final int[] WEIGHTS = {
        3, 9, 9, 7, 6, 4, 5, 3, 8, 7, 6, 3, 3, 8,
        5, 9, 6, 4, 6, 4, 5, 4, 5, 2, 2, 6, 4,
        3, 5, 4, 6, 5, 5, 3, 10,
    };

    private final Random random;
    private final OneMourner x = new OneMourner();
    private final Oracle due = new Oracle();
    private final int seed;
    private int calls = 0;

    private RunsTest(int seed) {
        this.seed = seed;
        random = new Random(seed);
    }

    public static void main(String[] args) {
        for (int seed = 1; seed <= RUNS && Due.wrong() == 0; seed++) {
            new RunsTest(seed).run();
        }
        Due.end();
    }

    private void run() {
        int mourners = random.nextInt(7);
        boolean mild = random.nextInt(3) == 0;
        for (int p = 0; p < mourners; p++) {
            int kind = mild ? 5 - 3 * random.nextInt(2) : random.nextInt(7);
            mourner(kind, random.nextInt(10), mild ? random.nextInt(4) : random.nextInt(100));
        }
        int all = 0;
        for (int weight : WEIGHTS) {
            all += weight;
        }
        while (calls < CALLS - 110) {
            int draw = random.nextInt(all);
            int call = 0;
            while (draw >= WEIGHTS[call]) {
                draw -= WEIGHTS[call];
                call++;
            }
            call(call);
        }
    }

    private void say(String call, long got, long want) {
        calls++;
        Due.due("seed " + seed + ", call " + calls + ", " + call, got, want);
    }

    /** A number from least to most, at times one beyond, seldom one far beyond. */
    private int some(int least, int most) {
        int way = random.nextInt(40);
        if (way == 0) {
            return FAR[random.nextInt(FAR.length)];
        }
        if (way < 3) {
            return way == 1 ? least - 1 : most + 1;
        }
        return way < 6 ? (way == 3 ? least : most) : least + random.nextInt(most - least + 1);
    }

    private int one() {
        int mourners = due.count(0);
        return mourners == 0 ? some(0, 5) : some(0, mourners - 1);
    }

    private void mourner(int kind, int v, int grief) {
        say("mourner(" + kind + ", " + v + ", " + grief + ")", x.mourner(kind, v, grief), due.mourner(kind, v, grief));
    }

    private void feed(int sign) {
        say("feed(" + sign + ")", x.feed(sign), due.feed(sign));
    }

    private void call(int call) {
        int a = one();
        switch (NAMES[call]) {
            case "mourner" -> mourner(some(0, 6), some(0, 9), some(0, 99));
            case "of" -> of(a, some(0, 7));
            case "set" -> set(a, some(0, 2));
            case "done" -> done(a, random.nextInt(3) == 0);
            case "list" -> list(random.nextInt(12) == 0 ? -1 : a);
            case "swap" -> swap(a, one());
            case "row" -> row(a, some(0, 3), some(0, 9));
            case "island" -> island();
            case "told" -> told(some(0, 8));
            case "pass" -> pass(random.nextInt(4) == 0 ? some(0, 60) : some(0, 3));
            case "on" -> on(some(0, 60), random.nextInt(3) == 0 ? some(0, 1) : some(10, 15));
            case "turn" -> say("turn(" + a + ")", x.turn(a), due.turn(a));
            case "empty" -> say("empty()", x.empty(), due.empty());
            case "best" -> best(some(0, 1), some(-1, 5));
            case "see" -> see(a);
            case "can" -> can(a, some(0, 2), some(0, 1));
            case "odds" -> odds(some(0, 1));
            case "mean" -> mean(some(0, 1));
            case "plan" -> plan(random.nextInt(14) == 0 ? -1 : some(0, 3), a);
            default -> others(call, a);
        }
    }

    private void others(int call, int a) {
        switch (NAMES[call]) {
            case "ends" -> ends(some(0, 1));
            case "book" -> book(random.nextInt(9) == 0 ? -1 : a);
            case "looked" -> say("looked()", x.looked(), due.looked());
            case "judge" -> judge(some(0, 5));
            case "image" -> say("image()", x.image(), due.image());
            case "undo" -> say("undo()", x.undo(), due.undo());
            case "act" -> act(a, some(0, 2), random.nextInt(4) == 0 ? random.nextInt() : some(-9, 99));
            case "trace" -> trace(some(0, 12));
            case "taken" -> taken(a, some(0, 6));
            case "count" -> count(some(0, 7));
            case "tape" -> tape(some(0, 5), some(-1, 4), random.nextInt(3) == 0 ? some(0, 60) : some(0, 8));
            case "item" -> item(some(0, 5), some(0, 9), random.nextLong() >> random.nextInt(64));
            case "read" -> read(some(0, 5), some(0, 9));
            case "shift" -> shift(some(0, 5), some(0, 5), some(0, 5), some(0, 5), some(0, 7));
            case "feed" -> feed(some(0, 127));
            case "agreed" -> agreed();
            default -> throw new IllegalStateException(NAMES[call]);
        }
    }

    private void of(int a, int what) {
        say("of(" + a + ", " + what + ")", x.of(a, what), due.of(a, what));
    }

    private void set(int a, int what) {
        int n = random.nextInt(3) == 0 ? some(0, 12) : some(0, what == 2 ? 99999 : 99);
        say("set(" + a + ", " + what + ", " + n + ")", x.set(a, what, n), due.set(a, what, n));
    }

    private void done(int a, boolean is) {
        say("done(" + a + ", " + is + ")", x.done(a, is), due.done(a, is));
    }

    private void list(int a) {
        say("list(" + a + ")", x.list(a), due.list(a));
    }

    private void swap(int a, int b) {
        say("swap(" + a + ", " + b + ")", x.swap(a, b), due.swap(a, b));
    }

    private void row(int a, int part, int n) {
        say("row(" + a + ", " + part + ", " + n + ")", x.row(a, part, n), due.row(a, part, n));
    }

    private void told(int what) {
        say("told(" + what + ")", x.told(what), due.told(what));
    }

    /** Somebody who does not hurt at the head of the list, and what is agreed then. */
    private void agreed() {
        for (int left = random.nextInt(3); left > 0; left--) {
            list(one());
        }
        told(6);
        told(7);
        told(8);
    }

    private void pass(int n) {
        say("pass(" + n + ")", x.pass(n), due.pass(n));
    }

    private void on(int n, int what) {
        say("on(" + n + ", " + what + ")", x.on(n, what), due.on(n, what));
    }

    private void best(int what, int k) {
        say("best(" + what + ", " + k + ")", x.best(what, k), due.best(what, k));
    }

    /** PAIN as it is now, if somebody is there, so that something can be. */
    private void see(int a) {
        if (random.nextInt(8) == 0) {
            a = -1;
        }
        boolean asNow = random.nextInt(3) != 0;
        int pain = asNow ? due.of(a, 7) : some(0, 999);
        int n = asNow ? 0 : some(0, 20);
        say("see(" + a + ", " + pain + ", " + n + ")", x.see(a, pain, n), due.see(a, pain, n));
    }

    private void can(int a, int which, int what) {
        say("can(" + a + ", " + which + ", " + what + ")", x.can(a, which, what), due.can(a, which, what));
    }

    private void odds(int part) {
        int rows = (int) Math.max(1, due.mean(1));
        int mean = (int) (due.mean(0) / rows);
        int q = random.nextInt(4) == 0 ? some(0, 9999) : some(Math.max(0, mean - mean / 8), mean + mean / 8);
        say("odds(" + q + ", " + part + ")", x.odds(q, part), due.odds(q, part));
    }

    private void mean(int part) {
        say("mean(" + part + ")", x.mean(part), due.mean(part));
    }

    private void plan(int what, int a) {
        say("plan(" + what + ", " + a + ")", x.plan(what, a), due.plan(what, a));
    }

    private void ends(int what) {
        say("ends(" + what + ")", x.ends(what), due.ends(what));
    }

    private void book(int a) {
        int hurt = random.nextInt(4) == 0 ? some(0, 99999) : due.of(a, 4);
        say("book(" + a + ", " + hurt + ")", x.book(a, hurt), due.book(a, hurt));
    }

    /** By a row of ints that is mostly as all hurt. */
    private void judge(int tape) {
        int from = some(0, 3);
        if (random.nextInt(3) == 0) {
            int size = random.nextInt(10);
            say("tape(" + tape + ", 2, " + size + ")", x.tape(tape, 2, size), due.tape(tape, 2, size));
            int right = random.nextInt(7);
            for (int p = 0; p < due.count(0) && p < right && from >= 0 && from < 4; p++) {
                item(tape, from + p, due.of(p, 4));
            }
        }
        say("judge(" + tape + ", " + from + ")", x.judge(tape, from), due.judge(tape, from));
    }

    private void act(int a, int act, int arg) {
        say("act(" + a + ", " + act + ", " + arg + ")", x.act(a, act, arg), due.act(a, act, arg));
        say("count(7)", x.count(7), due.count(7));
    }

    private void trace(int i) {
        say("trace(" + i + ")", x.trace(i), due.trace(i));
    }

    private void taken(int a, int k) {
        say("taken(" + a + ", " + k + ")", x.taken(a, k), due.taken(a, k));
    }

    private void count(int what) {
        say("count(" + what + ")", x.count(what), due.count(what));
    }

    private void tape(int tape, int sort, int n) {
        say("tape(" + tape + ", " + sort + ", " + n + ")", x.tape(tape, sort, n), due.tape(tape, sort, n));
    }

    private void item(int tape, int i, long v) {
        say("item(" + tape + ", " + i + ", " + v + ")", x.item(tape, i, v), due.item(tape, i, v));
    }

    private void read(int tape, int i) {
        say("read(" + tape + ", " + i + ")", x.read(tape, i), due.read(tape, i));
    }

    private void shift(int tape, int i, int other, int j, int n) {
        say("shift(" + tape + ", " + i + ", " + other + ", " + j + ", " + n + ")",
            x.shift(tape, i, other, j, n), due.shift(tape, i, other, j, n));
    }

    // ---- islands

    private void island() {
        if (random.nextInt(12) != 0) {
            if (due.count(6) > 0) {
                say("island()", x.island(), due.island());
            }
            String text = text();
            for (int i = 0; i < text.length() && i < 100; i++) {
                feed(text.charAt(i));
            }
        }
        say("island()", x.island(), due.island());
    }

    private String text() {
        StringBuilder text = new StringBuilder();
        int clauses = random.nextInt(9) == 0 ? 9 + random.nextInt(4) : 1 + random.nextInt(4);
        for (int c = 0; c < clauses; c++) {
            text.append(c == 0 ? "" : ";");
            if (clauses > 8 || random.nextInt(4) == 0) {
                text.append("lost ").append(random.nextInt(random.nextInt(3) == 0 ? 100 : 7));
            } else {
                text.append(random.nextInt(3) == 0 ? "ache " : "calm ").append(random.nextInt(100)).append(' ');
                either(text, random.nextInt(4));
            }
        }
        if (random.nextInt(3) == 0) {
            change(text);
        }
        return text.toString();
    }

    private void change(StringBuilder text) {
        String signs = "pkvgwd<=>0123456789&|!(); acehlmost?";
        int at = random.nextInt(text.length());
        char sign = signs.charAt(random.nextInt(signs.length()));
        switch (random.nextInt(4)) {
            case 0 -> text.setCharAt(at, sign);
            case 1 -> text.insert(at, sign);
            case 2 -> text.deleteCharAt(at);
            default -> text.setLength(at);
        }
    }

    private void either(StringBuilder text, int deep) {
        int parts = 1 + random.nextInt(5) / 2;
        for (int i = 0; i < parts; i++) {
            text.append(i == 0 ? "" : "|");
            int ones = 1 + random.nextInt(5) / 2;
            for (int j = 0; j < ones; j++) {
                text.append(j == 0 ? "" : "&");
                factor(text, deep);
            }
        }
    }

    private void factor(StringBuilder text, int deep) {
        int way = random.nextInt(5);
        if (deep > 0 && way == 0) {
            text.append('!');
            factor(text, deep - 1);
        } else if (deep > 0 && way == 1) {
            text.append('(');
            either(text, deep - 1);
            text.append(')');
        } else {
            int letter = random.nextInt(6);
            int[] most = {7, 7, 10, 10, 12, 10};
            text.append("pkvgwd".charAt(letter)).append("<=>".charAt(random.nextInt(3)));
            text.append(random.nextInt(most[letter]));
        }
    }
}
