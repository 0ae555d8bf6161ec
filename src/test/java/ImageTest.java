/** Promises 25 to 30: the image, acts, kinds, counts. */
public final class ImageTest {
    public static void main(String[] args) {
        imageOfWearers();
        imageOfHand();
        imageOfCities();
        notInTheImage();
        nods();
        knocks();
        tells();
        told();
        actRefused();
        taken();
        count();
        Due.end();
    }

    private static void imageOfWearers() {
        BowlerDents x = Due.with(6, 3, 40, 1, 2, 50);
        x.row(0, 2, 8);
        Due.saying(x, 30, 2, 0);
        Due.saying(x, 30, 3, -1);
        x.pass(3);
        int hurt = x.of(0, 4);
        Due.due(26, "no image", x.undo(), -3);
        Due.due(25, "two", x.image(), 2);
        x.wearer(6, 9, 90);
        for (int part = 0; part < 4; part++) {
            x.row(2, part, 9);
        }
        Due.saying(x, 60, 1, 2);
        x.row(0, 2, 1);
        x.aim(0, 1);
        x.aim(1, 2);
        x.mend(1, 99);
        x.pass(40);
        Due.due(26, "two again", x.undo(), 2);
        Due.due(26, "day", x.told(0), 3);
        Due.due(26, "kind", x.of(0, 0), 6);
        Due.due(26, "v", x.of(0, 1), 3);
        Due.due(26, "cover", x.of(0, 2), 34);
        Due.due(26, "dents", x.of(0, 3), 2);
        Due.due(26, "hurt", x.of(0, 4), hurt);
        Due.due(26, "row", x.row(0, 2, 5), 8);
        Due.due(26, "cover of 1", x.of(1, 2), 50);
        Due.due(26, "no third", x.of(2, 0), Due.NO_NUMBER);
        Due.due(26, "sayings", x.count(1), 2);
        Due.due(26, "at whom", x.phrase(0, 2), 0);
        Due.due(26, "at none", x.phrase(1, 2), Due.UNMET);
        Due.due(26, "a new third", x.wearer(6, 1, 1), 2);
        Due.due(26, "is undented", x.of(2, 3) + x.of(2, 4), 0);
        for (int part = 0; part < 4; part++) {
            Due.due(26, "its row is 0", x.row(2, part, 0), 0);
        }
        Due.due(26, "a new saying", x.saying(1, 1), 2);
        Due.due(26, "is at none", x.phrase(2, 2), Due.UNMET);
        Due.due(26, "undo again", x.undo(), 2);
        Due.due(26, "row again", x.row(0, 2, 5), 8);
        x.wearer(0, 0, 0);
        Due.due(25, "a newer image", x.image(), 3);
        Due.due(26, "undo to the newer", x.undo(), 3);
    }

    private static void imageOfHand() {
        BowlerDents x = Due.with(0, 0, 10, 0, 0, 20);
        x.saying(1, 1);
        x.see(0, 0, 10);
        x.ache(0, 0, false);
        x.plan(1, 1);
        x.book(1, 20);
        x.image();
        x.see(-1, 0, 0);
        x.see(1, 1, 1);
        x.see(1, 1, 1);
        x.ache(-1, 0, true);
        x.ache(1, 1, true);
        x.ache(1, 1, true);
        x.plan(-1, 0);
        x.plan(0, 0);
        x.plan(0, 0);
        x.book(-1, 0);
        x.book(0, 0);
        x.book(0, 0);
        x.undo();
        for (int what = 3; what <= 6; what++) {
            Due.due(26, "count(" + what + ")", x.count(what), 1);
        }
        Due.due(26, "seen", x.of(0, 7), 10);
        Due.due(26, "sores", x.can(0, 0), 10);
        Due.due(26, "plan", x.ends(1), 109);
        Due.due(26, "book", x.looked(), Due.UNMET);
        x.mend(1, 21);
        Due.due(26, "book holds wearer 1", x.looked(), 0);
    }

    private static void imageOfCities() {
        BowlerDents x = Due.with(0, 0, 10);
        x.saying(1, 1);
        x.image();
        Due.city(x, "rub 7;firm 5 p=0");
        x.undo();
        Due.due(26, "no city held", x.told(1), 3);
        Due.due(26, "no clauses", x.of(0, 10), 2);
        Due.due(26, "it is still there", x.count(2), 1);
        Due.city(x, "rub 8;firm 6 p=0");
        x.image();
        Due.city(x, "rub 9");
        x.undo();
        Due.due(26, "that one held", x.told(1), 8);
        Due.due(26, "its clauses", x.of(0, 10), 8);
        Due.due(26, "three", x.count(2), 3);
        Due.due(10, "the next number", Due.city(x, "rub 1"), 3);
    }

    private static void notInTheImage() {
        BowlerDents x = Due.with(0, 0, 10);
        x.image();
        x.feed('r');
        x.tape(0, 2, 3);
        x.act(0, 0, 1);
        x.undo();
        Due.due(26, "the text stays", x.count(7), 1);
        Due.due(26, "tapes stay", x.read(0, 2), 0);
        Due.due(26, "the trace stays", x.trace(0), 10);
    }

    /** WEARER 6, CLERK 5, SOFT 3, HEIR 7, BANKER 2, KETTLE 4. */
    private static BowlerDents six() {
        return Due.with(0, 6, 0, 1, 5, 0, 2, 3, 0, 3, 7, 0, 4, 2, 0, 5, 4, 0);
    }

    private static void act(BowlerDents x, int wearer, int act, int want, int... bodies) {
        String call = "act(" + wearer + ", " + act + ", 10)";
        Due.due(27, call, x.act(wearer, act, 10), want);
        Due.due(30, "bodies of " + call, x.count(8), bodies.length);
        for (int i = 0; i < bodies.length; i++) {
            Due.due(28, "trace(" + i + ") of " + call, x.trace(i), bodies[i]);
        }
        Due.due(28, "behind the last of " + call, x.trace(bodies.length), -1);
        Due.due(28, "ahead of the first of " + call, x.trace(-1), -1);
    }

    private static void nods() {
        BowlerDents x = six();
        act(x, 0, 0, 10, 10);
        act(x, 1, 0, 11, 10);
        act(x, 2, 0, 32, 30, 10);
        act(x, 3, 0, 13, 10);
        act(x, 4, 0, -14, 50, 10);
        act(x, 5, 0, 35, 30, 10);
    }

    private static void knocks() {
        BowlerDents x = six();
        act(x, 0, 1, 4, 11, 10);
        act(x, 1, 1, 0, 20, 11, 10);
        act(x, 2, 1, 29, 11, 30, 10);
        act(x, 3, 1, 6, 11, 10);
        act(x, 4, 1, -23, 51, 20, 11, 50, 10);
        act(x, 5, 1, 31, 11, 30, 10);
    }

    private static void tells() {
        BowlerDents x = six();
        act(x, 0, 2, 8, 12, 11, 10);
        act(x, 1, 2, 0, 12, 20, 11, 10);
        act(x, 2, 2, 58, 12, 11, 30, 10);
        act(x, 3, 2, 9, 40, 12, 11, 10, 11, 10);
        act(x, 4, 2, -46, 12, 51, 20, 11, 50, 10);
        act(x, 5, 2, 32, 60, 12, 11, 30, 10);
    }

    private static void told() {
        BowlerDents x = Due.with(6, 5, 0);
        act(x, 0, 0, 15, 71, 10);
        act(x, 0, 1, 12, 70, 11, 71, 10, 10);
        act(x, 0, 2, 25, 40, 12, 70, 11, 71, 10, 10, 70, 11, 71, 10, 10);
    }

    private static void actRefused() {
        BowlerDents x = six();
        int[][] wrong = {{-1, 0}, {6, 0}, {0, -1}, {0, 3}};
        for (int[] call : wrong) {
            x.act(0, 2, 10);
            Due.due(27, "act(" + call[0] + ", " + call[1] + ", 10)", x.act(call[0], call[1], 10), 0);
            Due.due(28, "no trace then", x.trace(0), -1);
            Due.due(30, "no bodies then", x.count(8), 0);
        }
        Due.due(27, "wraps up", x.act(1, 0, Integer.MAX_VALUE), Integer.MIN_VALUE);
        Due.due(27, "wraps down", x.act(0, 1, Integer.MIN_VALUE), Integer.MAX_VALUE - 5);
        Due.due(27, "wraps by 3", x.act(2, 0, Integer.MAX_VALUE), Integer.MAX_VALUE * 3 + 2);
        Due.due(28, "trace(20)", x.trace(20), -1);
        Due.due(28, "trace far below", x.trace(Integer.MIN_VALUE), -1);
    }

    private static void taken() {
        BowlerDents a = six();
        BowlerDents b = Due.with(6, 0, 0);
        // by kind: for which kinds it may be taken, as bits
        int[] mayBe = {1, 3, 5, 9, 1 + 2 + 16, 1 + 4 + 32, 1 + 8 + 64};
        for (int kind = 0; kind <= 6; kind++) {
            for (int k = 0; k <= 6; k++) {
                int got = kind == 6 ? b.taken(0, k) : a.taken(kind, k);
                int want = (mayBe[kind] >> k & 1) == 1 ? kind : -12;
                Due.due(29, "kind " + kind + " taken for " + k, got, want);
            }
        }
        Due.due(29, "k -1", b.taken(0, -1), -2);
        Due.due(29, "k 7", b.taken(0, 7), -2);
        Due.due(29, "BAD before NOTHING", b.taken(1, 7), -2);
        Due.due(29, "wearer 1", b.taken(1, 0), -11);
        Due.due(29, "wearer -1", b.taken(-1, 0), -11);
    }

    private static void count() {
        BowlerDents x = Due.with(0, 0, 0, 0, 0, 0);
        x.saying(1, 1);
        x.saying(1, 1);
        x.saying(1, 1);
        Due.city(x, "rub 1");
        x.see(0, 0, 0);
        x.ache(0, 0, true);
        x.ache(0, 0, true);
        x.plan(0, 0);
        x.plan(0, 0);
        x.plan(0, 0);
        x.plan(0, 0);
        for (int i = 0; i < 5; i++) {
            x.book(0, 0);
        }
        Due.feed(x, "abcdef");
        x.act(0, 2, 1);
        int[] want = {2, 3, 1, 1, 2, 4, 5, 6, 3};
        for (int what = 0; what < want.length; what++) {
            Due.due(30, "count(" + what + ")", x.count(what), want[what]);
        }
        Due.due(30, "what 9", x.count(9), -2);
        Due.due(30, "what -1", x.count(-1), -2);
    }
}
