/** The sentences of promises 9 to 11, and of the terms on ISLANDS, LOST and SUM, that name a bound. */
public final class IslandsBoundsTest {
    private static final String LETTERS = "pkvgwd";

    public static void main(String[] args) {
        feed();
        hundredBytes();
        clauses();
        between();
        blanks();
        digits();
        words();
        tests();
        expressions();
        letters();
        waitsAndDays();
        joins();
        nesting();
        faults();
        faultsOfWholeTexts();
        faultsLeaveNothing();
        holds();
        six();
        lost();
        lostByLast();
        sum();
        told();
        nobodyHasIt();
        Due.end();
    }

    private static void feed() {
        Due.says("Promise 9", "A sign (0 .. 127) comes behind THE TEXT's: how many it has.");
        OneMourner x = new OneMourner();
        Due.due("0", x.feed(0), 1);
        Due.due("127", x.feed(127), 2);
        Due.says("Promise 9", "BAD; FULL.");
        for (int sign : Made.beyond(0, 127)) {
            Due.due("feed of " + sign, x.feed(sign), -2);
        }
        for (int size = 3; size <= 100; size++) {
            Due.due("feed", x.feed('a'), size);
        }
        Due.due("byte 101", x.feed('a'), -4);
        Due.due("bad ahead of full", x.feed(128), -2);
        Due.due("bad ahead of full, below 0", x.feed(-1), -2);
        Due.due("bytes", x.count(6), 100);
    }

    /** Clauses of 10 bytes each, by which 0 aches 1 more. */
    private static String aches(int clauses) {
        return "ache 1 p=0;".repeat(clauses - 1) + "ache 1 p=0";
    }

    private static void hundredBytes() {
        Due.says("1 MOURNERS", "AN ISLAND is read from THE TEXT (bytes, 100 at most)");
        String text = aches(8) + ";ache 10 p=00";
        Due.due("bytes", text.length(), 100);
        OneMourner x = Made.of(0, 0, 5);
        Due.feed(x, text);
        Due.due("byte 101", x.feed(';'), -4);
        Due.due("it is an island as it stands", x.island(), 0);
        Due.due("pain by all of it", x.of(0, 7), 5 + 8 + 10);
    }

    private static void faulty(String text, int fault) {
        OneMourner x = new OneMourner();
        Due.island(x, text, -10 - fault);
        Due.due("islands behind " + text, x.count(1), 0);
    }

    private static void fine(String text) {
        OneMourner x = new OneMourner();
        Due.island(x, text, 0);
        Due.due("islands behind " + text, x.count(1), 1);
    }

    private static void clauses() {
        Due.says("1 MOURNERS", "CLAUSES, 1 to 10");
        faulty("", 0);
        fine("lost 3");
        String ten = aches(7) + ";lost 2;lost 3;lost 4";
        OneMourner x = Made.by(ten, 0, 0, 0);
        Due.due("ache of the seven", x.of(0, 7), 7);
        Due.due("the tenth", x.told(1), 4);
        String tenLost = "lost 1;lost 2;lost 3;lost 4;lost 5;lost 6;lost 7;lost 8;lost 9;lost 10";
        fine(tenLost);
        faulty(tenLost + ";lost 11", tenLost.length());
        faulty(tenLost + ";", tenLost.length());
    }

    private static void between() {
        Due.says("1 MOURNERS", "with ; between");
        fine("lost 2;calm 3 k=4;lost 5");
        faulty(";lost 2", 0);
        faulty("lost 2;", 7);
        faulty("lost 2;;lost 3", 7);
        faulty("lost 2,lost 3", 6);
        faulty("lost 2lost 3", 6);
        faulty("lost 2; lost 3", 7);
        faulty("ache 2 p=1ache 3 p=1", 10);
        faulty("ache 2 p=1;", 11);
    }

    private static void blanks() {
        Due.says("1 MOURNERS", "(one blank ahead of each part behind the word");
        for (String word : new String[] {"ache", "calm"}) {
            fine(word + " 2 p=1");
            faulty(word + "2 p=1", 4);
            faulty(word + "  2 p=1", 5);
            faulty(word + " 2p=1", 6);
            faulty(word + " 2  p=1", 7);
            faulty(word + " 2 p=1 ", 10);
            faulty(word + " 2 p =1", 8);
            faulty(word + " 2 p= 1", 9);
            faulty(" " + word + " 2 p=1", 0);
        }
        faulty("lost2", 4);
        faulty("lost  2", 5);
        faulty("lost 2 ", 6);
        faulty(" lost 2", 0);
        faulty("lost\t2", 4);
    }

    private static void digits() {
        Due.says("1 MOURNERS", "n 1 or 2 digits)");
        fine("ache 0 p=1;calm 9 p=1;ache 00 p=1;calm 99 p=1;lost 0;lost 00;lost 99");
        faulty("ache  p=1", 5);
        faulty("ache p=1", 5);
        faulty("ache 100 p=1", 7);
        faulty("ache -1 p=1", 5);
        faulty("calm  p=1", 5);
        faulty("calm 001 p=1", 7);
        faulty("lost", 4);
        faulty("lost ", 5);
        faulty("lost a", 5);
        faulty("lost 100", 7);
        faulty("lost +2", 5);
        Due.due("ache 99 and 09", Made.by("ache 99 p=0;ache 09 p=0", 0, 0, 0).of(0, 7), 108);
        Due.due("calm 99", Made.by("calm 99 p=0", 1, 0, 99).of(0, 7), 0);
        Due.due("calm 98", Made.by("calm 98 p=0", 1, 0, 99).of(0, 7), 1);
        Due.says("1 MOURNERS", "a number (1 or 2 digits)");
        fine("ache 1 p=0|p<00|p>9|p=99");
        faulty("ache 1 p=", 9);
        faulty("ache 1 p=&", 9);
        faulty("ache 1 p=100", 11);
        faulty("ache 1 p=-1", 9);
        OneMourner x = Made.by("ache 7 w=10;ache 1 w=01", 0, 0, 0);
        x.set(0, 1, 10);
        Due.due("the number 10", x.of(0, 7), 7);
        x.set(0, 1, 1);
        Due.due("the number 01", x.of(0, 7), 1);
    }

    private static void words() {
        Due.says("1 MOURNERS", "ache n E; calm n E; lost n");
        faulty("Ache 1 p=1", 0);
        faulty("acha 1 p=1", 3);
        faulty("aches 1 p=1", 4);
        faulty("calf 1 p=1", 3);
        faulty("call 1 p=1", 3);
        faulty("list 1", 1);
        faulty("loss 1", 3);
        faulty("mend 1 p=1", 0);
        faulty("ache 1", 6);
        faulty("ache 1 ", 7);
        faulty("calm 1;lost 2", 6);
        faulty("lost 2 p=1", 6);
    }

    private static void tests() {
        Due.says("1 MOURNERS", "a TEST: a letter, < or = or >");
        for (int sign = 0; sign < 128; sign++) {
            boolean letter = LETTERS.indexOf(sign) >= 0;
            boolean begins = letter || sign == '!' || sign == '(';
            OneMourner x = new OneMourner();
            Due.feed(x, "ache 1 ");
            x.feed(sign);
            Due.due("an E of " + sign, x.island(), begins ? -18 : -17);
            Due.feed(x, "ache 1 p");
            x.feed(sign);
            Due.due("p and " + sign, x.island(), sign == '<' || sign == '=' || sign == '>' ? -19 : -18);
            Due.feed(x, "ache 1 p=1");
            x.feed(sign);
            boolean goesOn = sign == '&' || sign == '|' || sign == ';';
            boolean digit = sign >= '0' && sign <= '9';
            Due.due("p=1 and " + sign, x.island(), digit ? 0 : goesOn ? -21 : -20);
        }
    }

    private static void expressions() {
        Due.says("1 MOURNERS", "E: T or T|E. T: F or F&T. F: !F, (E), or a TEST");
        fine("ache 1 p=1|p=1|p=1&p=1&p=1|p=1");
        fine("ache 1 (p=1|p=1&p=1)&(p=1)|!(p=1)");
        faulty("ache 1 |p=1", 7);
        faulty("ache 1 &p=1", 7);
        faulty("ache 1 p=1|", 11);
        faulty("ache 1 p=1&", 11);
        faulty("ache 1 p=1||p=1", 11);
        faulty("ache 1 p=1&&p=1", 11);
        faulty("ache 1 p=1|&p=1", 11);
        faulty("ache 1 p=1!p=1", 10);
        faulty("ache 1 p=1(p=1)", 10);
        faulty("ache 1 !", 8);
        faulty("ache 1 !&p=1", 8);
        faulty("ache 1 ()", 8);
        faulty("ache 1 (p=1", 11);
        faulty("ache 1 (p=1;lost 2", 11);
        faulty("ache 1 p=1)", 10);
        faulty("ache 1 (p=1))", 12);
        faulty("ache 1 (p=1|)", 12);
    }

    /** Whether an E holds for MOURNER 1; -1: neither. */
    private static int holds(OneMourner x, String e) {
        int without = x.of(1, 7);
        Due.feed(x, "ache 7 " + e);
        Due.due(e + " is an island", x.island() >= 0 ? 1 : 0, 1);
        int more = x.of(1, 7) - without;
        return more == 7 ? 1 : more == 0 ? 0 : -1;
    }

    /** A letter that is n is less than n + 1, more than n - 1, and neither less nor more than n. */
    private static void is(String letter, int n, int day, int kind, int v, int grief, int waited) {
        String[] signs = {"<", "=", ">"};
        for (int other = Math.max(0, n - 1); other <= Math.min(99, n + 1); other++) {
            for (int s = 0; s < 3; s++) {
                OneMourner x = Made.onDay(day, 0, 0, 0, kind, v, grief);
                x.set(1, 1, waited);
                Due.due(letter + signs[s] + other + " for " + n, holds(x, letter + signs[s] + other),
                    Integer.compare(n, other) == s - 1 ? 1 : 0);
            }
        }
    }

    private static void letters() {
        Due.says("1 MOURNERS", "p the number of the one, k its KIND, v its v");
        is("p", 1, 0, 4, 8, 77, 50);
        is("k", 0, 0, 0, 8, 77, 50);
        is("k", 4, 0, 4, 8, 77, 50);
        is("v", 0, 0, 0, 0, 77, 50);
        is("v", 9, 0, 0, 9, 77, 50);
        Due.says("1 MOURNERS", "g GRIEF by 10 (cut)");
        int[] griefs = {0, 9, 10, 19, 20, 89, 90, 99};
        int[] cut = {0, 0, 1, 1, 2, 8, 9, 9};
        for (int i = 0; i < griefs.length; i++) {
            is("g", cut[i], 0, 0, 8, griefs[i], 50);
        }
        Due.says("1 MOURNERS", "w WAITED (as it is then)");
        is("w", 0, 0, 0, 8, 77, 0);
        is("w", 99, 0, 0, 8, 77, 99);
        is("w", 10, 0, 0, 8, 77, 10);
        Due.says("1 MOURNERS", "d the DAY modulo 10");
        int[] days = {0, 1, 9, 10, 19, 20, 101, 9999};
        for (int day : days) {
            is("d", day % 10, day, 0, 8, 77, 50);
        }
    }

    private static void waitsAndDays() {
        Due.says("1 MOURNERS", "w WAITED (as it is then)");
        OneMourner x = Made.by("ache 9 w=3;ache 20 w=99", 0, 0, 1);
        Due.row("hurt by 3, 4 and 5 days", new long[] {x.on(3, 10), x.on(4, 10), x.on(5, 10)}, 3, 13, 14);
        x.set(0, 1, 98);
        Due.row("hurt at the most", new long[] {x.on(1, 10), x.on(2, 10), x.on(3, 10)}, 1, 22, 43);
        Due.says("1 MOURNERS", "d the DAY modulo 10");
        OneMourner y = Made.onDay(9999, 0, 0, 1);
        Due.island(y, "ache 9 d=0;ache 50 d=10", 0);
        Due.row("hurt beyond 9999", new long[] {y.on(1, 10), y.on(2, 10), y.on(3, 10)}, 1, 11, 12);
    }

    /** E of yes and no, by how E, T and F are told. */
    private static void joins() {
        Due.says("1 MOURNERS", "E: T or T|E. T: F or F&T. F: !F, (E), or a TEST");
        String[] yes = {"y", "!n", "!!y", "n|y", "y|n", "y&y", "n&n|y", "y|n&n", "!n&y", "!(n&y)", "n|n|y", "y|n|n", "n|y|n", "y&(n|y)",
            "n&y|y&y", "!(n|n)|n", "!n|y&n", "y&y|n&n", "(n|y)&(y|n)", "!(!(y))", "n|!n&!n"};
        String[] no = {"n", "!y", "!!n", "n|n", "n&y", "y&n", "n|n|n", "n&y&y", "(y|n)&n", "n&(n|y)", "!y&y", "!(y|n)", "!y|n", "y&y&n",
            "n&y|y&n", "n&n|n", "!(n&n)&n", "!(y)&!(n)", "(y|y)&!y", "!(!(n))", "n|!n&!y"};
        for (int i = 0; i < yes.length; i++) {
            Due.due(yes[i], holds(Made.many(2), told(yes[i])), 1);
            Due.due(no[i], holds(Made.many(2), told(no[i])), 0);
        }
    }

    private static String told(String joined) {
        return joined.replace("y", "p=1").replace("n", "p=2");
    }

    private static void nesting() {
        Due.says("1 MOURNERS", "A ( or ! within 4 others is none.");
        for (int mix = 0; mix < 16; mix++) {
            StringBuilder open = new StringBuilder();
            StringBuilder closed = new StringBuilder();
            for (int level = 0; level < 4; level++) {
                boolean bracket = (mix >> level & 1) == 0;
                open.append(bracket ? "(" : "!");
                closed.append(bracket ? ")" : "");
            }
            fine("ache 1 " + open + "p=1" + closed);
            faulty("ache 1 " + open + "(p=1)" + closed, 11);
            faulty("ache 1 " + open + "!p=1" + closed, 11);
            // a ! is over behind its F, a ( is not
            if (mix < 8) {
                faulty("ache 1 " + open + "p=1&(p=1)" + closed, 15);
            } else {
                fine("ache 1 " + open + "p=1&(p=1)" + closed);
            }
        }
        // what is closed, or over, is not around what comes behind it
        fine("ache 1 ((((p=1))))&((((p=1))))|((((p=1))))");
        fine("ache 1 !!!!p=1&!!!!p=1|!!!!p=1");
        fine("ache 1 (((!p=1&!p=1|(p=1))))");
        fine("ache 1 !!!(p=1)&(!(!p=1)|((p=1)));calm 2 !!!!p=1");
        faulty("ache 1 (((!p=1&!!p=1)))", 16);
        faulty("ache 1 ((((p=1)|p=1&(p=1))))|(((((p=1)))))", 33);
        Due.due("four ! are none", holds(Made.many(2), "!!!!p=1"), 1);
        Due.due("three ! are one", holds(Made.many(2), "!!!p=1"), 0);
    }

    private static void faults() {
        Due.says("1 MOURNERS", "The FAULT: the place of the first byte with which none begins so");
        faulty("x", 0);
        faulty("ax", 1);
        faulty("ache 1 p=1;lost x", 16);
        faulty("ache 1 p=1;lost 2x;?", 17);
        faulty("xache 1 p=1", 0);
        faulty("\0", 0);
        faulty("lost 2\177", 6);
        Due.says("1 MOURNERS", "(the end of THE TEXT, if it ends too early)");
        faulty("", 0);
        String text = "ache 1 p=1&!(k<2|v>3);lost 4;calm 5 d=6";
        for (int size = 0; size <= text.length(); size++) {
            OneMourner x = new OneMourner();
            Due.feed(x, text.substring(0, size));
            boolean whole = size == 10 || size == 21 || size == 28 || size == 39;
            Due.due(size + " bytes", x.island(), whole ? 0 : -10 - size);
        }
    }

    private static void faultsOfWholeTexts() {
        Due.says("1 MOURNERS", "(the end of THE TEXT, if it ends too early)");
        faulty(aches(8) + ";ache 10 p=0&", 100);
        Due.says("1 MOURNERS", "The FAULT: the place of the first byte with which none begins so");
        faulty(aches(8) + ";ache 10 p=0x", 99);
        faulty("x".repeat(100), 0);
        Due.says("Promise 10", "-10 less the FAULT (the one that held holds).");
        OneMourner x = Made.by("lost 4;ache 5 p=0", 0, 0, 10);
        Due.island(x, "lost 6;ache 7 p=0;", -28);
        Due.due("lost", x.told(1), 4);
        Due.due("pain", x.of(0, 7), 15);
        Due.due("islands", x.count(1), 1);
        Due.island(x, "lost 8", 1);
        Due.due("pain by the next", x.of(0, 7), 10);
        OneMourner y = Made.of(0, 0, 10);
        Due.island(y, "lost 6;ache 7 p=0;", -28);
        Due.due("pain without one that held", y.of(0, 7), 10);
        Due.due("lost without one that held", y.told(1), 0);
    }

    private static void faultsLeaveNothing() {
        Due.says("Promise 10", "THE TEXT, which is empty then, is AN ISLAND, and holds: its number.");
        OneMourner x = Made.of(0, 0, 10);
        String half = "ache 9 !!!!p=0" + "|!!!!p=0".repeat(8) + ";lost 2;ache x";
        for (int times = 0; times < 4; times++) {
            Due.island(x, half, -10 - half.length() + 1);
        }
        Due.due("pain without an island", x.of(0, 7), 10);
        Due.island(x, "ache 7 p=0;calm 1 p=1;ache 5 v=0", 0);
        Due.due("pain by nothing of what was read ahead of it", x.of(0, 7), 22);
        Due.due("lost by nothing of it", x.told(1), 0);
    }

    private static void holds() {
        Due.says("1 MOURNERS", "without one there are no CLAUSES");
        OneMourner x = Made.of(0, 0, 10);
        Due.feed(x, "ache 5 p=0;lost 2");
        Due.due("pain by a text that is not read", x.of(0, 7), 10);
        Due.due("lost by it", x.told(1), 0);
        Due.says("1 MOURNERS", "The newest ISLAND holds");
        Due.due("island", x.island(), 0);
        Due.due("pain", x.of(0, 7), 15);
        Due.island(x, "ache 6 p=0", 1);
        Due.due("pain by the newest alone", x.of(0, 7), 16);
        Due.due("lost by the newest alone", x.told(1), 0);
        Due.says("Promise 10", "THE TEXT, which is empty then, is AN ISLAND, and holds: its number.");
        Due.due("bytes", x.count(6), 0);
        Due.due("the empty text", x.island(), -10);
        Due.island(x, "lost 7", 2);
        Due.due("lost", x.told(1), 7);
    }

    private static void six() {
        Due.says("1 MOURNERS", "(6 at most)");
        OneMourner x = new OneMourner();
        for (int i = 0; i < 6; i++) {
            Due.due("islands", x.count(1), i);
            Due.island(x, "lost " + (2 + i), i);
            Due.due("lost", x.told(1), 2 + i);
        }
        Due.says("Promise 10", "FULL: there are 6 (THE TEXT stays)");
        Due.due("full, of an empty text", x.island(), -4);
        Due.feed(x, "lost 9");
        Due.due("full", x.island(), -4);
        Due.due("islands", x.count(1), 6);
        Due.due("bytes", x.count(6), 6);
        Due.due("lost", x.told(1), 7);
        Due.due("the text goes on", x.feed('x'), 7);
        Due.due("full ahead of the fault", x.island(), -4);
        Due.due("bytes", x.count(6), 7);
    }

    private static void lost() {
        Due.says("1 MOURNERS", "LOST is a DAY, if the last n of lost is above 1, and DAY and 1, together, are a multiple"
            + " of it.");
        int[] ns = {0, 1, 2, 3, 10, 99};
        for (int n : ns) {
            OneMourner x = Made.by("lost " + n, 0, 0, 0);
            for (int day = 0; day <= 200; day++) {
                Due.due("day " + day + " by lost " + n, x.told(2), n > 1 && (day + 1) % n == 0 ? 1 : 0);
                x.pass(1);
            }
        }
        OneMourner y = Made.onDay(9998, 0, 0, 0);
        Due.island(y, "lost 99", 0);
        Due.due("day 9998", y.told(2), 1);
        y.pass(1);
        Due.due("day 9999", y.told(2), 0);
        Due.island(y, "lost 80", 1);
        Due.due("day 9999 by lost 80", y.told(2), 1);
    }

    private static void lostByLast() {
        Due.says("1 MOURNERS", "the last n of lost");
        OneMourner x = Made.by("lost 2;lost 3;ache 4 p=0", 0, 0, 0);
        Due.due("lost", x.told(1), 3);
        x.pass(1);
        Due.due("day 1", x.told(2), 0);
        x.pass(1);
        Due.due("day 2", x.told(2), 1);
        Due.island(x, "lost 3;lost 1", 1);
        Due.due("lost", x.told(1), 1);
        Due.due("day 2 by the last", x.told(2), 0);
        Due.island(x, "lost 3;lost 0", 2);
        Due.due("lost", x.told(1), 0);
        Due.due("day 2 by the last, 0", x.told(2), 0);
    }

    private static void sum() {
        Due.says("1 MOURNERS", "SUM of a MOURNER on a DAY: GRIEF, and the n of all ache whose E holds, less those of all"
            + " calm, together (may be below 0).");
        OneMourner x = Made.by("calm 20 p=0;ache 4 p=0;ache 50 p=1;calm 40 k=2", 1, 0, 6);
        int[] waited = {0, 9, 10, 11, 99};
        int[] pains = {0, 0, 0, 1, 89};
        for (int i = 0; i < waited.length; i++) {
            x.set(0, 1, waited[i]);
            Due.due("pain by waited " + waited[i], x.of(0, 7), pains[i]);
        }
        Due.due("all of nine", Made.by(aches(9), 0, 0, 99).of(0, 7), 108);
    }

    private static void told() {
        Due.says("Promise 11", "NONE.");
        OneMourner x = Made.many(1);
        for (int what : Made.beyond(0, 8)) {
            Due.due("told " + what, x.told(what), -1);
        }
        Due.says("Promise 11", "1 the last n of lost (0 without)");
        Due.due("without an island", x.told(1), 0);
        Due.island(x, "calm 99 p=1", 0);
        Due.due("without lost", x.told(1), 0);
        Due.island(x, "lost 99;calm 1 p=1", 1);
        Due.due("the most", x.told(1), 99);
        Due.says("Promise 11", "3 HURT of all, 4 how many are DONE");
        OneMourner y = Made.many(6);
        Due.due("hurt of six at first", y.told(3), 0);
        for (int p = 0; p < 6; p++) {
            y.set(p, 2, 99999);
            Due.due("hurt", y.told(3), 99999 * (p + 1));
            y.done(p, true);
            Due.due("done", y.told(4), p + 1);
        }
        Due.due("hurt of all who are done", y.told(3), 599994);
    }

    private static void nobodyHasIt() {
        Due.says("Promise 11", "5 who has this DAY (-5: nobody)");
        Due.due("without mourners", new OneMourner().told(5), -5);
        OneMourner x = Made.by("lost 2", 0, 0, 0, 0, 0, 0, 0, 0, 0);
        Due.due("an empty list", x.told(5), -5);
        Made.list(x, 2, 1);
        Due.due("the first", x.told(5), 2);
        x.done(2, true);
        Due.due("the first who is not done", x.told(5), 1);
        x.done(1, true);
        Due.due("all of the list are done", x.told(5), -5);
        x.done(2, false);
        Due.due("the first again", x.told(5), 2);
        x.list(-1);
        x.pass(1);
        Made.list(x, 2, 1);
        Due.due("a lost day", x.told(5), -5);
    }
}
