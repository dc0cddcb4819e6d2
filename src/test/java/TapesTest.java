/** Promises 25 and 32 to 35: tapes, and judging by them. */
public final class TapesTest {
    public static void main(String[] args) {
        tape();
        items();
        places();
        shift();
        overlaps();
        judge();
        Due.end();
    }

    private static void tape() {
        OneMourner x = new OneMourner();
        Due.due("tape 6", x.tape(6, 0, 1), -1);
        Due.due("tape -1", x.tape(-1, 0, 1), -1);
        Due.due("tape ahead of sort", x.tape(6, 9, 99), -1);
        Due.due("sort 5", x.tape(0, 5, 1), -2);
        Due.due("sort -2", x.tape(0, -2, 1), -2);
        Due.due("n 61", x.tape(0, 0, 61), -2);
        Due.due("n -1", x.tape(0, 0, -1), -14);
        Due.due("least n", x.tape(0, 4, Integer.MIN_VALUE), -14);
        Due.due("sort ahead of n", x.tape(0, 5, -1), -2);
        Due.due("nothing is there", x.item(0, 0, 1), -11);
        Due.due("60", x.tape(0, 0, 60), 1);
        Due.due("0", x.tape(5, 4, 0), 1);
        Due.due("something is there", x.item(5, 0, 1), -13);
        Due.due("item", x.item(0, 59, 3), 1);
        Due.due("a bad one changes nothing", x.tape(0, 0, -1), -14);
        Due.due("it is as it was", x.read(0, 59), 3);
        Due.due("anew", x.tape(0, 0, 60), 1);
        Due.due("all 0", x.read(0, 59), 0);
        x.item(0, 2, 9);
        Due.due("nothing, whatever n", x.tape(0, -1, -99), 1);
        Due.due("nothing", x.item(0, 2, 1), -11);
        Due.due("no first place", x.read(0, 0), OneMourner.NO);
        Due.due("no place", x.read(0, 2), OneMourner.NO);
        Due.due("nothing, n 61", x.tape(0, -1, 61), 1);
        Due.due("anew again", x.tape(0, 1, 3), 1);
        Due.due("all 0 again", x.read(0, 2), 0);
        x.item(0, 0, 9);
        x.tape(0, 1, 3);
        Due.due("the first is 0 again", x.read(0, 0), 0);
    }

    private static void item(int sort, long v, long want) {
        OneMourner x = new OneMourner();
        x.tape(3, sort, 2);
        Due.due("item of sort " + sort, x.item(3, 1, v), 1);
        Due.due(v + " as an item of sort " + sort, x.read(3, 1), want);
        Due.due("the other item", x.read(3, 0), 0);
    }

    private static void items() {
        item(0, 127, 127);
        item(0, 128, -128);
        item(0, -129, 127);
        item(0, 511, -1);
        item(1, 32767, 32767);
        item(1, 32768, -32768);
        item(1, 200000, 200000 - 3 * 65536);
        item(2, 2147483647L, 2147483647L);
        item(2, 2147483648L, -2147483648L);
        item(2, 9999999999L, 1410065407L);
        item(3, Long.MAX_VALUE, Long.MAX_VALUE);
        item(3, Long.MIN_VALUE, Long.MIN_VALUE);
        item(4, 0, 0);
        item(4, 1, 1);
        item(4, 256, 1);
        item(4, -1, 1);
        item(4, 1L << 40, 1);
    }

    private static void places() {
        OneMourner x = new OneMourner();
        x.tape(1, 2, 3);
        Due.due("item of tape 6", x.item(6, 0, 1), -1);
        Due.due("item of tape -1", x.item(-1, 0, 1), -1);
        Due.due("item of nothing", x.item(0, 9, 1), -11);
        Due.due("item 3", x.item(1, 3, 1), -13);
        Due.due("item -1", x.item(1, -1, 1), -13);
        Due.due("item of the least place", x.item(1, Integer.MIN_VALUE, 1), -13);
        Due.due("item 2", x.item(1, 2, 1), 1);
        Due.due("read 2", x.read(1, 2), 1);
        Due.due("read 3", x.read(1, 3), OneMourner.NO);
        Due.due("read -1", x.read(1, -1), OneMourner.NO);
        Due.due("read of nothing", x.read(0, 0), OneMourner.NO);
        Due.due("read of tape 6", x.read(6, 0), OneMourner.NO);
        Due.due("read of tape -1", x.read(-1, 0), OneMourner.NO);
    }

    private static void shift() {
        OneMourner x = new OneMourner();
        x.tape(0, 2, 5);
        x.tape(1, 2, 3);
        x.tape(2, 3, 5);
        for (int i = 0; i < 5; i++) {
            x.item(0, i, 10 + i);
        }
        Due.due("tape 6", x.shift(6, 0, 0, 0, 1), -1);
        Due.due("other -1", x.shift(0, 0, -1, 0, 1), -1);
        Due.due("from nothing", x.shift(4, 0, 0, 0, 1), -11);
        Due.due("to nothing", x.shift(0, 0, 4, 0, 1), -11);
        Due.due("nothing ahead of place", x.shift(0, 9, 4, 0, 1), -11);
        Due.due("unlike sorts", x.shift(0, 0, 2, 0, 1), -12);
        Due.due("unlike sorts ahead of place", x.shift(0, -1, 2, 0, 1), -12);
        Due.due("n -1", x.shift(0, 0, 1, 0, -1), -13);
        Due.due("i -1", x.shift(0, -1, 1, 0, 1), -13);
        Due.due("j -1", x.shift(0, 0, 1, -1, 1), -13);
        Due.due("beyond the one", x.shift(0, 4, 1, 0, 2), -13);
        Due.due("beyond the other", x.shift(0, 0, 1, 0, 4), -13);
        Due.due("beyond the other, from 1", x.shift(0, 0, 1, 1, 3), -13);
        Due.due("greatest", x.shift(0, Integer.MAX_VALUE, 1, Integer.MAX_VALUE, Integer.MAX_VALUE), -13);
        Due.due("greatest n", x.shift(0, 1, 1, 1, Integer.MAX_VALUE), -13);
        Due.due("0 from the end", x.shift(0, 5, 1, 3, 0), 0);
        Due.due("0 from beyond the end", x.shift(0, 6, 1, 3, 0), -13);
        Due.due("0 to beyond the end", x.shift(0, 5, 1, 4, 0), -13);
        Due.due("nothing came", x.read(1, 0), 0);
        Due.due("2", x.shift(0, 3, 1, 1, 2), 2);
        Due.row("what came", new long[] {x.read(1, 0), x.read(1, 1), x.read(1, 2)}, 0, 13, 14);
        Due.due("it is still there", x.read(0, 3), 13);
    }

    private static void overlaps() {
        OneMourner x = new OneMourner();
        x.tape(0, 0, 6);
        for (int i = 0; i < 6; i++) {
            x.item(0, i, i);
        }
        Due.due("forth", x.shift(0, 0, 0, 2, 4), 4);
        long[] forth = new long[6];
        for (int i = 0; i < 6; i++) {
            forth[i] = x.read(0, i);
        }
        Due.row("forth", forth, 0, 1, 0, 1, 2, 3);
        Due.due("back", x.shift(0, 1, 0, 0, 5), 5);
        long[] back = new long[6];
        for (int i = 0; i < 6; i++) {
            back[i] = x.read(0, i);
        }
        Due.row("back", back, 1, 0, 1, 2, 3, 3);
    }

    private static void judge() {
        OneMourner x = new OneMourner();
        Due.due("tape 6", x.judge(6, 0), -1);
        Due.due("tape -1", x.judge(-1, 0), -1);
        Due.due("nothing, nobody", x.judge(0, -1), -5);
        x.tape(1, 3, 5);
        Due.due("longs, nobody", x.judge(1, 0), -12);
        for (int p = 0; p < 3; p++) {
            x.mourner(0, 0, 0);
            x.set(p, 2, 10 + p);
        }
        x.tape(2, 2, 5);
        Due.due("nothing", x.judge(0, 0), 100);
        Due.due("longs", x.judge(1, 0), -12);
        Due.due("longs, place below 0", x.judge(1, -1), -12);
        Due.due("place below 0", x.judge(2, -1), 100);
        Due.due("place 5", x.judge(2, 5), 100);
        Due.due("greatest place", x.judge(2, Integer.MAX_VALUE), 100);
        Due.due("least place", x.judge(2, Integer.MIN_VALUE), 100);
        Due.due("the first", x.judge(2, 0), 0);
        for (int i = 2; i < 5; i++) {
            x.item(2, i, 8 + i);
        }
        Due.due("none", x.judge(2, 2), -5);
        Due.due("the first from 1 on", x.judge(2, 1), 0);
        Due.due("the first from 4 on", x.judge(2, 4), 0);
        x.item(2, 3, 10);
        Due.due("the second", x.judge(2, 2), 1);
        Due.due("the row ends behind 1 and the second", x.judge(2, 3), 1);
        x.item(2, 4, 11);
        Due.due("the row ends behind two", x.judge(2, 3), 102);
        x.item(2, 4, 10);
        Due.due("the row ends behind one", x.judge(2, 4), 101);
    }
}
