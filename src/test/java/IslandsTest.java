/** Promises 9 to 11: the text, islands, pains by them, what is told. */
public final class IslandsTest {
    public static void main(String[] args) {
        feed();
        faults();
        nesting();
        clauses();
        full();
        tests();
        precedence();
        pains();
        told();
        Due.end();
    }

    private static void feed() {
        OneMourner x = new OneMourner();
        Due.due("-1", x.feed(-1), -2);
        Due.due("128", x.feed(128), -2);
        Due.due("0", x.feed(0), 1);
        Due.due("127", x.feed(127), 2);
        for (int i = 3; i <= 100; i++) {
            Due.due("feed", x.feed(65), i);
        }
        Due.due("101", x.feed(65), -4);
        Due.due("bad ahead of full", x.feed(128), -2);
        Due.due("bytes", x.count(6), 100);
        Due.due("island", x.island(), -10);
        Due.due("bytes behind it", x.count(6), 0);
    }

    private static void faults() {
        String[] texts = {
            "", "a", "x", "ac", "aX", "ache", "ache ", "ache  ", "ache x", "ache 1", "ache 1;", "ache 12", "ache 123",
            "ache 12 ", "ache 12  ", "ache 1 q", "ache 1 p", "ache 1 p!", "ache 1 p=", "ache 1 p=p", "ache 1 p=123",
            "ache 1 p=1 ", "ache 1 p=1&", "ache 1 p=1&;", "ache 1 p=1|", "ache 1 p=1|&", "ache 1 p=1)", "ache 1 ()",
            "ache 1 (p=1", "ache 1 (p=1;", "ache 1 (p=1))", "ache 1 !", "ache 1 !;", "ache 1 p=1;", "ache 1 p=1;;",
            "lost", "lost 12;", "lost 123", "lost 1 p=1", "lose 1", "calm 1", "cold", "calm 5 w>3,", "Ache", "ache 1 P=1",
            "ache 1 p=1!", "ache 1 p=1(", "ache 1 p=1p", "calm 1 p==1", "calm 1 p=-1", " lost 2", "lost 2 ",
        };
        int[] faults = {
            0, 1, 0, 2, 1, 4, 5, 5, 5, 6, 6, 7, 7,
            8, 8, 7, 8, 8, 9, 9, 11,
            10, 11, 11, 11, 11, 10, 8,
            11, 11, 12, 8, 8, 11, 11,
            4, 8, 7, 6, 3, 6, 1, 10, 0, 7,
            10, 10, 10, 9, 9, 0, 6,
        };
        Due.due("as many faults as texts", faults.length, texts.length);
        for (int t = 0; t < texts.length; t++) {
            OneMourner x = new OneMourner();
            Due.island(x, texts[t], -10 - faults[t]);
            Due.due("no islands", x.count(1), 0);
        }
        faultsLeaveNothing();
    }

    /** What was read of texts that are none is not in the next one. */
    private static void faultsLeaveNothing() {
        OneMourner x = new OneMourner();
        x.mourner(0, 0, 10);
        String half = "ache 9 p=0;lost 2;ache 8 p=0|p=0|p=0|p=0|p=0|p=0|p=0|p=0|p=0|p=0|p=0|p=0|p=0|p=0|p=0;x";
        for (int i = 0; i < 4; i++) {
            Due.island(x, half, -10 - half.length() + 1);
        }
        Due.due("pain without an island", x.of(0, 7), 10);
        Due.island(x, "ache 7 p=0;calm 1 p=1;ache 5 v=0", 0);
        Due.due("pain by the one that is", x.of(0, 7), 22);
        Due.due("it has no lost", x.told(1), 0);
    }

    private static void nesting() {
        OneMourner x = new OneMourner();
        Due.island(x, "ache 1 ((((p=1))))", 0);
        Due.island(x, "ache 1 !!!!p=1", 1);
        Due.island(x, "ache 1 !(!(p=1)&!(p=1))", 2);
        Due.island(x, "ache 1 !(!(p=1)&!(!p=1))", -28);
        Due.island(x, "ache 1 (((((p=1)))))", -21);
        Due.island(x, "ache 1 !!!!!p=1", -21);
        Due.island(x, "ache 1 !(!((p=1)))", -21);
        Due.island(x, "ache 1 !(!(!p=1))", -21);
        Due.island(x, "ache 1 ((((p=1&!k=1))))", -25);
        // a ! is over once its F is
        Due.island(x, "ache 1 !!!!p=1&!!!!p=1", 3);
        Due.island(x, "ache 1 ((((p=1))))|((((p=1))))", 4);
    }

    private static void clauses() {
        OneMourner x = new OneMourner();
        String ten = "lost 1;lost 2;lost 3;lost 4;lost 5;lost 6;lost 7;lost 8;lost 9;lost 10";
        Due.island(x, ten, 0);
        Due.due("the last lost", x.told(1), 10);
        Due.island(x, ten + ";", -10 - ten.length());
        Due.island(x, ten + ";lost 3", -10 - ten.length());
        Due.due("the one that held holds", x.told(1), 10);
        Due.island(x, "lost 07;ache 00 p=00", 1);
        Due.due("lost 07", x.told(1), 7);
    }

    private static void full() {
        OneMourner x = new OneMourner();
        for (int i = 0; i < 6; i++) {
            Due.island(x, "lost " + (i + 2), i);
        }
        Due.feed(x, "lost 9");
        Due.due("a seventh", x.island(), -4);
        Due.due("the text stays", x.count(6), 6);
        Due.due("islands", x.count(1), 6);
        Due.due("lost", x.told(1), 7);
        x.feed(';');
        Due.due("full ahead of the fault", x.island(), -4);
    }

    /** PAIN of a MOURNER without GRIEF is 1 where E holds. */
    private static int holds(String e, int kind, int v, int grief, int waited, int day) {
        OneMourner x = new OneMourner();
        x.mourner(0, 0, 0);
        x.mourner(kind, v, grief);
        x.set(1, 1, waited);
        for (int left = day; left > 0; left -= 60) {
            x.pass(Math.min(60, left));
        }
        x.set(1, 1, waited);
        int without = x.of(1, 7);
        Due.island(x, "ache 7 " + e, 0);
        return x.of(1, 7) - without == 7 ? 1 : x.of(1, 7) == without ? 0 : -1;
    }

    private static void tests() {
        Due.due("p=1", holds("p=1", 0, 3, 57, 12, 0), 1);
        Due.due("p<1", holds("p<1", 0, 3, 57, 12, 0), 0);
        Due.due("p>0", holds("p>0", 0, 3, 57, 12, 0), 1);
        Due.due("p>1", holds("p>1", 0, 3, 57, 12, 0), 0);
        Due.due("k=2", holds("k=2", 2, 3, 57, 12, 0), 1);
        Due.due("k<2", holds("k<2", 2, 3, 57, 12, 0), 0);
        Due.due("v=3", holds("v=3", 0, 3, 57, 12, 0), 1);
        Due.due("v<4", holds("v<4", 0, 3, 57, 12, 0), 1);
        Due.due("v<3", holds("v<3", 0, 3, 57, 12, 0), 0);
        Due.due("g=5", holds("g=5", 0, 3, 57, 12, 0), 1);
        Due.due("g>5", holds("g>5", 0, 3, 57, 12, 0), 0);
        Due.due("g=57", holds("g=57", 0, 3, 57, 12, 0), 0);
        Due.due("w=12", holds("w=12", 0, 3, 57, 12, 0), 1);
        Due.due("w>11", holds("w>11", 0, 3, 57, 12, 0), 1);
        Due.due("w=1", holds("w=1", 0, 3, 57, 12, 0), 0);
        Due.due("d=0", holds("d=0", 0, 3, 57, 12, 0), 1);
        Due.due("d=3 on day 123", holds("d=3", 0, 3, 57, 12, 123), 1);
        Due.due("d<3 on day 123", holds("d<3", 0, 3, 57, 12, 123), 0);
        Due.due("d<10", holds("d<10", 0, 3, 57, 12, 19), 1);
        Due.due("w=99", holds("w=99", 0, 3, 57, 99, 0), 1);
    }

    private static void precedence() {
        String yes = "v=3";
        String no = "v=4";
        Due.due("no&no|yes", holds(no + "&" + no + "|" + yes, 0, 3, 50, 0, 0), 1);
        Due.due("yes|no&no", holds(yes + "|" + no + "&" + no, 0, 3, 50, 0, 0), 1);
        Due.due("no&(no|yes)", holds(no + "&(" + no + "|" + yes + ")", 0, 3, 50, 0, 0), 0);
        Due.due("(yes|no)&no", holds("(" + yes + "|" + no + ")&" + no, 0, 3, 50, 0, 0), 0);
        Due.due("!no|yes", holds("!" + no + "|" + yes, 0, 3, 50, 0, 0), 1);
        Due.due("!yes|yes", holds("!" + yes + "|" + yes, 0, 3, 50, 0, 0), 1);
        Due.due("!(yes|yes)", holds("!(" + yes + "|" + yes + ")", 0, 3, 50, 0, 0), 0);
        Due.due("!no&no", holds("!" + no + "&" + no, 0, 3, 50, 0, 0), 0);
        Due.due("!(no&no)", holds("!(" + no + "&" + no + ")", 0, 3, 50, 0, 0), 1);
        Due.due("!!yes", holds("!!" + yes, 0, 3, 50, 0, 0), 1);
        Due.due("yes&yes&no|yes", holds(yes + "&" + yes + "&" + no + "|" + yes, 0, 3, 50, 0, 0), 1);
        Due.due("no|no|no", holds(no + "|" + no + "|" + no, 0, 3, 50, 0, 0), 0);
        Due.due("yes|no|no", holds(yes + "|" + no + "|" + no, 0, 3, 50, 0, 0), 1);
        Due.due("no|yes|no", holds(no + "|" + yes + "|" + no, 0, 3, 50, 0, 0), 1);
        Due.due("yes|no&no|no", holds(yes + "|" + no + "&" + no + "|" + no, 0, 3, 50, 0, 0), 1);
        Due.due("no&yes&yes", holds(no + "&" + yes + "&" + yes, 0, 3, 50, 0, 0), 0);
        Due.due("no|no|yes", holds(no + "|" + no + "|" + yes, 0, 3, 50, 0, 0), 1);
        Due.due("yes&no|no&yes", holds(yes + "&" + no + "|" + no + "&" + yes, 0, 3, 50, 0, 0), 0);
    }

    private static int pain(int kind, int v, int grief, int waited, int day, String island) {
        OneMourner x = new OneMourner();
        x.mourner(kind, v, grief);
        x.pass(day);
        x.set(0, 1, waited);
        if (!island.isEmpty()) {
            Due.island(x, island, 0);
        }
        return x.of(0, 7);
    }

    private static void pains() {
        Due.due("mourner", pain(0, 9, 40, 30, 0, ""), 40);
        Due.due("brooder", pain(1, 9, 40, 30, 0, ""), 70);
        Due.due("mender", pain(2, 9, 40, 30, 0, ""), 10);
        Due.due("mender below 0", pain(2, 9, 40, 41, 0, ""), 0);
        Due.due("saver ahead of v", pain(3, 9, 41, 8, 0, ""), 20);
        Due.due("saver at v", pain(3, 9, 41, 9, 0, ""), 82);
        Due.due("mother", pain(4, 9, 40, 30, 0, ""), 79);
        Due.due("child", pain(5, 9, 40, 30, 0, ""), 10);
        Due.due("child on an odd day", pain(5, 9, 40, 30, 1, ""), 0);
        Due.due("child on day 2", pain(5, 9, 40, 30, 2, ""), 10);
        Due.due("told ahead of v", pain(6, 9, 41, 8, 0, ""), 20);
        Due.due("told at v", pain(6, 9, 41, 9, 0, ""), 82);
        Due.due("sum of several", pain(0, 0, 40, 0, 0, "ache 5 k=0;calm 3 p=0;ache 10 p=1;ache 4 g=4"), 46);
        Due.due("below 0", pain(0, 0, 10, 0, 0, "calm 11 k=0"), 0);
        Due.due("brooder from below 0", pain(1, 0, 10, 5, 0, "calm 12 k=1"), 3);
        Due.due("mother from below 0", pain(4, 4, 10, 5, 0, "calm 18 k=4"), 1);
        Due.due("saver cut toward 0", pain(3, 9, 9, 0, 0, "calm 2 k=3"), 3);
        toldFromBelow();
    }

    /** The half of -3 is -1, and a ROW of 9 more is 8: cut toward 0, and 0 at least only in the end. */
    private static void toldFromBelow() {
        OneMourner x = new OneMourner();
        x.mourner(6, 2, 7);
        x.row(0, 0, 9);
        Due.island(x, "calm 10 k=6", 0);
        Due.due("told from -3", x.of(0, 7), 8);
        x.set(0, 1, 2);
        Due.due("told from twice -3", x.of(0, 7), 3);
        x.set(0, 0, 5);
        Due.due("told from twice -5", x.of(0, 7), 0);
    }

    private static void told() {
        OneMourner x = new OneMourner();
        Due.due("-1", x.told(-1), -1);
        Due.due("9", x.told(9), -1);
        x.mourner(0, 0, 10);
        x.mourner(0, 0, 20);
        x.mourner(0, 0, 30);
        Due.due("nobody on the list", x.told(5), -5);
        x.list(2);
        x.list(0);
        Due.due("2 has it", x.told(5), 2);
        x.done(2, true);
        Due.due("0 has it", x.told(5), 0);
        Due.due("how many are done", x.told(4), 1);
        Due.due("lost without", x.told(1), 0);
        Due.island(x, "lost 2;ache 1 p=0;lost 3", 0);
        Due.due("the last lost", x.told(1), 3);
        Due.due("day 0 is not lost", x.told(2), 0);
        x.set(0, 2, 5);
        x.set(1, 2, 6);
        x.set(2, 2, 99999);
        Due.due("hurt of all", x.told(3), 100010);
        x.pass(2);
        Due.due("day 2", x.told(0), 2);
        Due.due("day 2 is lost", x.told(2), 1);
        Due.due("nobody has a lost day", x.told(5), -5);
        Due.island(x, "lost 1", 1);
        Due.due("lost 1", x.told(1), 1);
        Due.due("lost 1 loses none", x.told(2), 0);
        Due.island(x, "lost 0", 2);
        Due.due("lost 0 loses none", x.told(2), 0);
        Due.island(x, "lost 2;lost 1", 3);
        Due.due("the last of lost counts", x.told(2), 0);
        Due.island(x, "ache 1 p=1", 4);
        Due.due("without lost", x.told(1), 0);
    }
}
