/** All that can be seen of an object: by what can be asked, and at last by calls that change it. */
final class Looks {
    private final OneMourner x;
    private final long[] seen = new long[400];
    private int size = 0;

    private Looks(OneMourner x) {
        this.x = x;
    }

    /** Some 330 calls at most; the object is not as it was then. */
    static long[] at(OneMourner x) {
        Looks looks = new Looks(x);
        looks.asks();
        looks.keeps();
        looks.changes();
        return java.util.Arrays.copyOf(looks.seen, looks.size);
    }

    private void see(long answer) {
        seen[size] = answer;
        size++;
    }

    private void asks() {
        int mourners = x.count(0);
        for (int what = 0; what <= 5; what++) {
            see(x.count(what));
        }
        for (int what = 0; what <= 8; what++) {
            see(x.told(what));
        }
        for (int p = 0; p < mourners; p++) {
            for (int what = 0; what <= 7; what++) {
                see(x.of(p, what));
            }
            for (int which = 0; which <= 2; which++) {
                see(x.can(p, which, 0));
                see(x.can(p, which, 1));
            }
        }
        see(x.looked());
        see(x.ends(0));
        see(x.ends(1));
        see(x.on(3, 0));
    }

    /** What no image keeps. */
    private void keeps() {
        see(x.count(6));
        see(x.count(7));
        for (int i = 0; i < x.count(7); i++) {
            see(x.trace(i));
        }
        for (int tape = 0; tape <= 5; tape++) {
            for (int i = 0; i == 0 || x.read(tape, i - 1) != OneMourner.NO; i++) {
                see(x.read(tape, i));
            }
            // an item's lowest bits tell which sort it is
            see(x.item(tape, 0, 0x180008080L));
            see(x.read(tape, 0));
        }
    }

    private void changes() {
        rows();
        see(x.island());
        see(x.told(1));
        see(x.undo());
        asks();
        rows();
        see(x.feed('x'));
    }

    private void rows() {
        for (int p = 0; p < x.count(0); p++) {
            for (int part = 0; part < 4 && x.of(p, 0) == 6; part++) {
                see(x.row(p, part, 0));
            }
        }
    }
}
