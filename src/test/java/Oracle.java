import java.lang.reflect.Array;
import java.math.BigInteger;
import java.util.ArrayList;
import java.util.Arrays;
import java.util.HashSet;
import java.util.List;
import java.util.Set;

/** The document once more, slowly and in another way: bodies are Java's own, ROWS are lists, texts are told anew. */
final class Oracle {
    static final long NO = Long.MIN_VALUE;

    private State now = new State();
    private State image;
    private String text = "";
    private final List<String> islands = new ArrayList<>();
    private List<Integer> trace = new ArrayList<>();
    private final Object[] tapes = new Object[6];

    // ---- kinds

    private class Mourner {
        int number, v, grief, waited, hurt, kind;
        boolean done;
        int[] row = new int[4];

        int pain(int sum, int day, int w) {
            return sum;
        }

        int weeps(int x) {
            trace.add(10);
            return x + number;
        }

        int waits(int x) {
            trace.add(11);
            return weeps(x) - v;
        }

        int tells(int x) {
            trace.add(12);
            return waits(x) * 2;
        }

        Mourner copy() {
            Mourner copy = make(kind);
            copy.number = number;
            copy.v = v;
            copy.grief = grief;
            copy.waited = waited;
            copy.hurt = hurt;
            copy.done = done;
            copy.row = row.clone();
            return copy;
        }
    }

    private class Brooder extends Mourner {
        @Override int pain(int sum, int day, int w) {
            return sum + w;
        }

        @Override int waits(int x) {
            trace.add(20);
            return super.waits(x) ^ 6;
        }
    }

    private class Mender extends Mourner {
        @Override int pain(int sum, int day, int w) {
            return sum - w;
        }

        @Override int weeps(int x) {
            trace.add(30);
            return super.weeps(x * 3);
        }
    }

    private class Saver extends Mourner {
        @Override int pain(int sum, int day, int w) {
            return w < v ? sum / 2 : 2 * sum;
        }

        @Override int tells(int x) {
            trace.add(40);
            return super.tells(x) + waits(1);
        }
    }

    private class Mother extends Brooder {
        @Override int pain(int sum, int day, int w) {
            return super.pain(sum, day, w) + v;
        }

        @Override int weeps(int x) {
            trace.add(50);
            return -super.weeps(x);
        }

        @Override int waits(int x) {
            trace.add(51);
            return super.waits(x + 1);
        }
    }

    private class Child extends Mender {
        @Override int pain(int sum, int day, int w) {
            return day % 2 == 1 ? 0 : super.pain(sum, day, w);
        }

        @Override int tells(int x) {
            trace.add(60);
            return super.tells(x - number);
        }
    }

    private class Told extends Saver {
        @Override int pain(int sum, int day, int w) {
            return super.pain(sum, day, w) + row[day % 4];
        }

        @Override int waits(int x) {
            trace.add(70);
            return super.waits(x) + super.weeps(2);
        }

        @Override int weeps(int x) {
            trace.add(71);
            return super.weeps(x) ^ v;
        }
    }

    private Mourner make(int kind) {
        Mourner[] kinds = {
            new Mourner(), new Brooder(), new Mender(), new Saver(), new Mother(), new Child(), new Told(),
        };
        kinds[kind].kind = kind;
        return kinds[kind];
    }

    private static Class<?> kindOf(int k) {
        Class<?>[] kinds = {
            Mourner.class, Brooder.class, Mender.class, Saver.class, Mother.class, Child.class, Told.class,
        };
        return kinds[k];
    }

    // ---- islands

    /** The ways on from what is due; within 0 .. 4 others an E is A .. E, a T F .. J, an F K .. O. */
    private static Set<String> open(String due) {
        char top = due.isEmpty() ? 0 : due.charAt(0);
        if (top < 'A' || top > 'O') {
            return Set.of(due);
        }
        String rest = due.substring(1);
        List<String> ways = new ArrayList<>();
        if (top <= 'J') {
            char part = (char) (top + 5);
            ways.add(part + rest);
            ways.add(part + (top <= 'E' ? "|" : "&") + top + rest);
        } else {
            ways.add("\1\2\3" + rest);
            if (top < 'O') {
                ways.add("!" + (char) (top + 1) + rest);
                ways.add("(" + (char) (top - 9) + ")" + rest);
            }
        }
        Set<String> open = new HashSet<>();
        ways.forEach(way -> open.addAll(open(way)));
        return open;
    }

    /** What may be due behind a byte; \1 a letter, \2 < = or >, \3 a number, \4 its second digit or none. */
    private static Set<String> behind(Set<String> due, char sign) {
        Set<String> behind = new HashSet<>();
        for (String stack : due) {
            if (stack.isEmpty()) {
                continue;
            }
            char top = stack.charAt(0);
            String rest = stack.substring(1);
            if (top == '\1') {
                if ("pkvgwd".indexOf(sign) >= 0) {
                    behind.add(rest);
                }
            } else if (top == '\2') {
                if ("<=>".indexOf(sign) >= 0) {
                    behind.add(rest);
                }
            } else if (top == '\3') {
                if (sign >= '0' && sign <= '9') {
                    behind.addAll(open(rest));
                    behind.add("\4" + rest);
                }
            } else if (top == '\4') {
                if (sign >= '0' && sign <= '9') {
                    behind.addAll(open(rest));
                }
            } else if (top == sign) {
                behind.addAll(open(rest));
            }
        }
        return behind;
    }

    private static final Set<String> CLAUSES = Set.of("ache \3 A", "calm \3 A", "lost \3");

    /** -1, if it is an island. */
    private static int fault(String text) {
        int clause = 1;
        Set<String> due = CLAUSES;
        for (int i = 0; i < text.length(); i++) {
            char sign = text.charAt(i);
            Set<String> next = behind(due, sign);
            if (sign == ';' && due.contains("") && clause < 10) {
                clause++;
                next.addAll(CLAUSES);
            }
            if (next.isEmpty()) {
                return i;
            }
            due = next;
        }
        return due.contains("") ? -1 : text.length();
    }

    private static String[] clausesOf(State all) {
        return all.island == null ? new String[0] : all.island.split(";");
    }

    private static int lostOf(State all) {
        int lost = 0;
        for (String clause : clausesOf(all)) {
            if (clause.startsWith("lost")) {
                lost = Integer.parseInt(clause.substring(5));
            }
        }
        return lost;
    }

    private static int sum(State all, Mourner one, int day, int waited) {
        int sum = one.grief;
        for (String clause : clausesOf(all)) {
            String[] parts = clause.split(" ");
            if (parts.length == 3 && either(parts[2], one, day, waited)) {
                int n = Integer.parseInt(parts[1]);
                sum += parts[0].equals("ache") ? n : -n;
            }
        }
        return sum;
    }

    /** The parts of an E or T between the signs that stand in no (. */
    private static List<String> parts(String e, char between) {
        List<String> parts = new ArrayList<>();
        int open = 0;
        int from = 0;
        for (int i = 0; i < e.length(); i++) {
            open += e.charAt(i) == '(' ? 1 : e.charAt(i) == ')' ? -1 : 0;
            if (open == 0 && e.charAt(i) == between) {
                parts.add(e.substring(from, i));
                from = i + 1;
            }
        }
        parts.add(e.substring(from));
        return parts;
    }

    private static boolean either(String e, Mourner one, int day, int waited) {
        return parts(e, '|').stream().anyMatch(t -> parts(t, '&').stream().allMatch(f -> holds(f, one, day, waited)));
    }

    private static boolean holds(String f, Mourner one, int day, int waited) {
        if (f.startsWith("!")) {
            return !holds(f.substring(1), one, day, waited);
        }
        if (f.startsWith("(")) {
            return either(f.substring(1, f.length() - 1), one, day, waited);
        }
        int[] values = {one.number, one.kind, one.v, one.grief / 10, waited, day % 10};
        int value = values["pkvgwd".indexOf(f.charAt(0))];
        int n = Integer.parseInt(f.substring(2));
        return f.charAt(1) == '<' ? value < n : f.charAt(1) == '=' ? value == n : value > n;
    }

    // ---- how all is

    private class State {
        List<Mourner> mourners = new ArrayList<>();
        List<Integer> list = new ArrayList<>();
        int day;
        String island;
        List<int[]> seen = new ArrayList<>();
        List<int[]> plan = new ArrayList<>();
        List<int[]> book = new ArrayList<>();

        State copy() {
            State copy = new State();
            mourners.forEach(one -> copy.mourners.add(one.copy()));
            copy.list.addAll(list);
            copy.day = day;
            copy.island = island;
            copy.seen.addAll(seen);
            copy.plan.addAll(plan);
            copy.book.addAll(book);
            return copy;
        }

        boolean lost(int on) {
            int n = lostOf(this);
            return n > 1 && (on + 1) % n == 0;
        }

        int pain(Mourner one, int ahead) {
            int w = Math.min(99, one.waited + ahead);
            return Math.max(0, one.pain(sum(this, one, day + ahead, w), day + ahead, w));
        }

        int who() {
            if (!lost(day)) {
                for (int p : list) {
                    if (!mourners.get(p).done) {
                        return p;
                    }
                }
            }
            return -5;
        }

        void goes(boolean real) {
            int who = who();
            List<Integer> left = left();
            for (int p : left) {
                Mourner one = mourners.get(p);
                if (p == who) {
                    one.done = true;
                } else {
                    one.hurt += pain(one, 0);
                    if (real && one.hurt > 99999) {
                        one.hurt = 99999;
                    }
                    one.waited = Math.min(99, one.waited + 1);
                }
            }
            day++;
        }

        List<Integer> left() {
            List<Integer> left = new ArrayList<>();
            for (Mourner one : mourners) {
                if (!one.done) {
                    left.add(one.number);
                }
            }
            return left;
        }

        int hurt() {
            return mourners.stream().mapToInt(one -> one.hurt).sum();
        }

        int doneOnes() {
            return mourners.size() - left().size();
        }

        /** What one hurts by having the place-th day that is not lost. */
        int hurts(int p, int place) {
            int hurts = 0;
            int ahead = 0;
            int slots = 0;
            while (true) {
                if (!lost(day + ahead)) {
                    if (slots == place) {
                        return hurts;
                    }
                    slots++;
                }
                hurts += pain(mourners.get(p), ahead);
                ahead++;
            }
        }

        List<List<Integer>> rows() {
            List<List<Integer>> rows = new ArrayList<>();
            grow(new ArrayList<>(), left(), rows);
            return rows;
        }

        private void grow(List<Integer> begun, List<Integer> left, List<List<Integer>> rows) {
            if (left.isEmpty()) {
                rows.add(begun);
            }
            for (int p : left) {
                List<Integer> longer = new ArrayList<>(begun);
                longer.add(p);
                List<Integer> fewer = new ArrayList<>(left);
                fewer.remove((Integer) p);
                grow(longer, fewer, rows);
            }
        }

        int[][] table() {
            int[][] table = new int[6][6];
            for (int p : left()) {
                for (int place = 0; place < left().size(); place++) {
                    table[p][place] = hurts(p, place);
                }
            }
            return table;
        }
    }

    private static int[] hurtsBy(int[][] table, List<Integer> row) {
        int[] hurts = new int[row.size()];
        for (int place = 0; place < hurts.length; place++) {
            hurts[place] = table[row.get(place)][place];
        }
        return hurts;
    }

    private boolean is(int mourner) {
        return mourner >= 0 && mourner < now.mourners.size();
    }

    private static boolean in(int n, int least, int most) {
        return n >= least && n <= most;
    }

    // ---- the face

    int mourner(int kind, int v, int grief) {
        if (!in(kind, 0, 6)) {
            return -1;
        }
        if (!in(v, 0, 9) || !in(grief, 0, 99)) {
            return -2;
        }
        if (now.mourners.size() == 6) {
            return -4;
        }
        Mourner one = make(kind);
        one.number = now.mourners.size();
        one.v = v;
        one.grief = grief;
        now.mourners.add(one);
        return one.number;
    }

    int of(int mourner, int what) {
        if (!is(mourner) || !in(what, 0, 7)) {
            return -1;
        }
        Mourner one = now.mourners.get(mourner);
        int place = now.list.indexOf(mourner);
        int[] all = {
            one.kind, one.v, one.grief, one.waited, one.hurt, one.done ? 1 : 0, place < 0 ? -5 : place,
            now.pain(one, 0),
        };
        return all[what];
    }

    int set(int mourner, int what, int n) {
        if (!is(mourner) || !in(what, 0, 2)) {
            return -1;
        }
        if (!in(n, 0, new int[] {99, 99, 99999}[what])) {
            return -2;
        }
        Mourner one = now.mourners.get(mourner);
        int was = new int[] {one.grief, one.waited, one.hurt}[what];
        one.grief = what == 0 ? n : one.grief;
        one.waited = what == 1 ? n : one.waited;
        one.hurt = what == 2 ? n : one.hurt;
        return was;
    }

    int done(int mourner, boolean is) {
        if (!is(mourner)) {
            return -1;
        }
        boolean was = now.mourners.get(mourner).done;
        now.mourners.get(mourner).done = is;
        return was ? 1 : 0;
    }

    int list(int mourner) {
        if (mourner == -1) {
            now.list.clear();
            return 0;
        }
        if (!is(mourner)) {
            return -1;
        }
        if (now.list.contains(mourner)) {
            return -3;
        }
        now.list.add(mourner);
        return now.list.size();
    }

    int swap(int one, int other) {
        if (!is(one) || !is(other)) {
            return -1;
        }
        if (one == other) {
            return -2;
        }
        if (!now.list.contains(one) || !now.list.contains(other)) {
            return -3;
        }
        java.util.Collections.swap(now.list, now.list.indexOf(one), now.list.indexOf(other));
        return now.list.indexOf(one);
    }

    int row(int mourner, int part, int n) {
        if (!is(mourner) || !in(part, 0, 3)) {
            return -1;
        }
        if (!in(n, 0, 9)) {
            return -2;
        }
        if (!(now.mourners.get(mourner) instanceof Told)) {
            return -3;
        }
        int was = now.mourners.get(mourner).row[part];
        now.mourners.get(mourner).row[part] = n;
        return was;
    }

    int feed(int sign) {
        if (!in(sign, 0, 127)) {
            return -2;
        }
        if (text.length() == 100) {
            return -4;
        }
        text += (char) sign;
        return text.length();
    }

    int island() {
        if (islands.size() == 6) {
            return -4;
        }
        String was = text;
        text = "";
        int fault = fault(was);
        if (fault >= 0) {
            return -10 - fault;
        }
        islands.add(was);
        now.island = was;
        return islands.size() - 1;
    }

    int told(int what) {
        switch (what) {
            case 0: return now.day;
            case 1: return lostOf(now);
            case 2: return now.lost(now.day) ? 1 : 0;
            case 3: return now.hurt();
            case 4: return now.doneOnes();
            case 5: return now.who();
            case 6: return agreed();
            case 7: return dear()[0];
            case 8: return dear()[1];
            default: return -1;
        }
    }

    private int agreed() {
        List<Integer> row = new ArrayList<>(now.list);
        row.removeIf(p -> now.mourners.get(p).done);
        int[][] table = now.table();
        int[] is = hurtsBy(table, row);
        for (int i = 0; i < row.size(); i++) {
            for (int j = i + 1; j < row.size(); j++) {
                List<Integer> other = new ArrayList<>(row);
                java.util.Collections.swap(other, i, j);
                int[] then = hurtsBy(table, other);
                int a = Integer.signum(then[j] - is[i]);
                int b = Integer.signum(then[i] - is[j]);
                if (a == -1 && b == -1 || a == -1 && b == 0 || a == 0 && b == -1) {
                    int least = Math.min(row.get(i), row.get(j));
                    return 10 * least + row.get(i) + row.get(j) - least;
                }
            }
        }
        return -5;
    }

    private int[] dear() {
        int[] dear = {-5, -5};
        List<Integer> left = now.left();
        for (int p : left) {
            int less = now.hurts(p, left.size() - 1) - now.hurts(p, 0);
            if (less > dear[1]) {
                dear = new int[] {p, less};
            }
        }
        return dear;
    }

    int pass(int n) {
        if (!in(n, 0, 60)) {
            return -2;
        }
        if (now.day + n > 9999) {
            return -3;
        }
        for (int i = 0; i < n; i++) {
            now.goes(true);
        }
        return now.day;
    }

    int on(int n, int what) {
        if (what != 0 && what != 1 && !(what >= 10 && is(what - 10))) {
            return -1;
        }
        if (!in(n, 0, 60)) {
            return -2;
        }
        State ahead = now.copy();
        for (int i = 0; i < n; i++) {
            ahead.goes(false);
        }
        return what == 0 ? ahead.hurt() : what == 1 ? ahead.doneOnes() : ahead.mourners.get(what - 10).hurt;
    }

    int turn(int mourner) {
        if (!is(mourner)) {
            return -1;
        }
        State ahead = now.copy();
        int days = 0;
        while (days <= 60 && !ahead.mourners.get(mourner).done) {
            ahead.goes(false);
            days++;
        }
        return days > 60 ? -5 : days;
    }

    int empty() {
        State ahead = now.copy();
        int days = 0;
        while (days <= 60 && !ahead.left().isEmpty()) {
            ahead.goes(false);
            days++;
        }
        return days > 60 ? -5 : days;
    }

    int best(int what, int k) {
        if (!in(what, 0, 1) || !in(k, -1, 5)) {
            return -1;
        }
        int[][] table = now.table();
        int best = Integer.MAX_VALUE;
        List<Integer> by = List.of();
        for (List<Integer> row : now.rows()) {
            int[] hurts = hurtsBy(table, row);
            int is = what == 0 ? Arrays.stream(hurts).sum() : Arrays.stream(hurts).max().orElse(0);
            if (is < best) {
                best = is;
                by = row;
            }
        }
        return k == -1 ? best : k < by.size() ? by.get(k) : -5;
    }

    int see(int mourner, int pain, int n) {
        if (mourner == -1) {
            now.seen.clear();
            return 0;
        }
        if (!is(mourner)) {
            return -1;
        }
        if (!in(pain, 0, 999) || !in(n, 0, 20)) {
            return -2;
        }
        return add(now.seen, 5, mourner, pain, n);
    }

    private static int add(List<int[]> rows, int most, int... row) {
        if (rows.size() == most) {
            return -4;
        }
        rows.add(row);
        return rows.size();
    }

    int can(int mourner, int which, int what) {
        if (!is(mourner) || !in(which, 0, 2) || !in(what, 0, 1)) {
            return -1;
        }
        List<Integer> can = new ArrayList<>();
        for (int n = 0; n <= new int[] {99, 60, 9}[which]; n++) {
            State other = now.copy();
            Mourner one = other.mourners.get(mourner);
            one.grief = which == 0 ? n : one.grief;
            one.waited = which == 1 ? n : one.waited;
            one.v = which == 2 ? n : one.v;
            if (now.seen.stream().allMatch(seen -> seen[0] != mourner || other.pain(one, seen[2]) == seen[1])) {
                can.add(n);
            }
        }
        return what == 0 ? can.size() : can.isEmpty() ? -5 : can.get(0);
    }

    private static long part(long above, long below, int part) {
        BigInteger a = BigInteger.valueOf(above);
        BigInteger b = BigInteger.valueOf(below);
        return (part == 0 ? a : b).divide(a.gcd(b)).longValueExact();
    }

    long odds(int q, int part) {
        if (!in(q, 0, 9999) || !in(part, 0, 1)) {
            return NO;
        }
        int[][] table = now.table();
        List<List<Integer>> rows = now.rows();
        long so = rows.stream().filter(row -> Arrays.stream(hurtsBy(table, row)).sum() <= q).count();
        return part(so, rows.size(), part);
    }

    long mean(int part) {
        if (!in(part, 0, 1)) {
            return NO;
        }
        int[][] table = now.table();
        List<List<Integer>> rows = now.rows();
        return part(rows.stream().mapToLong(row -> Arrays.stream(hurtsBy(table, row)).sum()).sum(), rows.size(), part);
    }

    int plan(int what, int mourner) {
        if (what == -1) {
            now.plan.clear();
            return 0;
        }
        if (!in(what, 0, 3) || what > 0 && !is(mourner)) {
            return -1;
        }
        return add(now.plan, 10, what, mourner);
    }

    int ends(int what) {
        if (!in(what, 0, 1)) {
            return -1;
        }
        State ahead = now.copy();
        for (int[] row : ahead.plan) {
            if (row[0] == 0) {
                ahead.goes(false);
            } else if (row[0] == 3) {
                ahead.mourners.get(row[1]).grief = Math.min(99, ahead.mourners.get(row[1]).grief + 10);
            } else {
                ahead.mourners.get(row[1]).done = row[0] == 1;
            }
        }
        return what == 0 ? ahead.hurt() : ahead.doneOnes();
    }

    int book(int mourner, int hurt) {
        if (mourner == -1) {
            now.book.clear();
            return 0;
        }
        if (!is(mourner)) {
            return -1;
        }
        if (!in(hurt, 0, 99999)) {
            return -2;
        }
        return add(now.book, 8, mourner, hurt);
    }

    int looked() {
        for (int[] row : now.book) {
            if (now.mourners.get(row[0]).hurt != row[1]) {
                return now.book.indexOf(row);
            }
        }
        return -5;
    }

    int judge(int tape, int i) {
        if (!in(tape, 0, 5)) {
            return -1;
        }
        if (tapes[tape] != null && !(tapes[tape] instanceof int[])) {
            return -12;
        }
        if (now.mourners.isEmpty()) {
            return -5;
        }
        int[] told = tapes[tape] == null || i < 0 ? new int[0] : (int[]) tapes[tape];
        int looked = 0;
        for (long at = Math.max(i, 0); at < told.length; at++) {
            if (looked == now.mourners.size()) {
                return -5;
            }
            if (told[(int) at] != now.mourners.get(looked).hurt) {
                return looked;
            }
            looked++;
        }
        return looked == now.mourners.size() ? -5 : 100 + looked;
    }

    int image() {
        image = now.copy();
        return now.mourners.size();
    }

    int undo() {
        if (image == null) {
            return -3;
        }
        now = image.copy();
        return now.mourners.size();
    }

    int act(int mourner, int act, int x) {
        trace = new ArrayList<>();
        if (!is(mourner) || !in(act, 0, 2)) {
            return 0;
        }
        Mourner one = now.mourners.get(mourner);
        return act == 0 ? one.weeps(x) : act == 1 ? one.waits(x) : one.tells(x);
    }

    int trace(int i) {
        return in(i, 0, Math.min(20, trace.size()) - 1) ? trace.get(i) : -1;
    }

    int taken(int mourner, int k) {
        if (!in(k, 0, 6)) {
            return -2;
        }
        if (!is(mourner)) {
            return -11;
        }
        return kindOf(k).isInstance(now.mourners.get(mourner)) ? now.mourners.get(mourner).kind : -12;
    }

    int count(int what) {
        if (!in(what, 0, 7)) {
            return -2;
        }
        return new int[] {
            now.mourners.size(), islands.size(), now.list.size(), now.seen.size(), now.plan.size(), now.book.size(),
            text.length(), trace.size(),
        }[what];
    }

    int tape(int tape, int sort, int n) {
        if (!in(tape, 0, 5)) {
            return -1;
        }
        if (sort == -1) {
            tapes[tape] = null;
            return 1;
        }
        if (!in(sort, 0, 4) || n > 60) {
            return -2;
        }
        if (n < 0) {
            return -14;
        }
        Class<?>[] sorts = {byte.class, short.class, int.class, long.class, boolean.class};
        tapes[tape] = Array.newInstance(sorts[sort], n);
        return 1;
    }

    int item(int tape, int i, long v) {
        if (!in(tape, 0, 5)) {
            return -1;
        }
        Object row = tapes[tape];
        if (row == null) {
            return -11;
        }
        if (!in(i, 0, Array.getLength(row) - 1)) {
            return -13;
        }
        if (row instanceof byte[] bytes) {
            bytes[i] = (byte) v;
        } else if (row instanceof short[] shorts) {
            shorts[i] = (short) v;
        } else if (row instanceof int[] ints) {
            ints[i] = (int) v;
        } else if (row instanceof long[] longs) {
            longs[i] = v;
        } else {
            ((boolean[]) row)[i] = v != 0;
        }
        return 1;
    }

    long read(int tape, int i) {
        if (!in(tape, 0, 5) || tapes[tape] == null || !in(i, 0, Array.getLength(tapes[tape]) - 1)) {
            return NO;
        }
        Object item = Array.get(tapes[tape], i);
        return item instanceof Boolean is ? (is ? 1 : 0) : ((Number) item).longValue();
    }

    int shift(int tape, int i, int other, int j, int n) {
        if (!in(tape, 0, 5) || !in(other, 0, 5)) {
            return -1;
        }
        Object from = tapes[tape];
        Object to = tapes[other];
        if (from == null || to == null) {
            return -11;
        }
        if (from.getClass() != to.getClass()) {
            return -12;
        }
        if (n < 0 || i < 0 || j < 0 || (long) i + n > Array.getLength(from) || (long) j + n > Array.getLength(to)) {
            return -13;
        }
        System.arraycopy(from, i, to, j, n);
        return n;
    }
}
