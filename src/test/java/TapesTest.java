/** Promises 24 and 31 to 34: judging, tapes. */
public final class TapesTest {
    public static void main(String[] args) {
        judge();
        judgeWithoutWearers();
        tape();
        item();
        read();
        shift();
        shiftRefused();
        Due.end();
    }

    private static void fill(BowlerDents x, int tape, int sort, int... items) {
        x.tape(tape, sort, items.length);
        for (int i = 0; i < items.length; i++) {
            x.item(tape, i, items[i]);
        }
    }

    private static void judge() {
        BowlerDents x = Due.with(0, 0, 10, 0, 0, 20, 0, 0, 30);
        Due.due(24, "tape -1", x.judge(-1, 0), -1);
        Due.due(24, "tape 6", x.judge(6, 0), -1);
        Due.due(24, "it holds nothing", x.judge(0, 0), 100);
        for (int sort = 1; sort <= 4; sort++) {
            fill(x, 0, sort, 10, 20, 30);
            Due.due(24, "sort " + sort, x.judge(0, 0), -12);
        }
        fill(x, 0, 0, 5, 10, 20, 30, 10, 20, 7);
        Due.due(24, "the first is otherwise", x.judge(0, 0), 0);
        Due.due(24, "all is so", x.judge(0, 1), Due.UNMET);
        Due.due(24, "the third is otherwise", x.judge(0, 4), 2);
        Due.due(24, "place -1", x.judge(0, -1), 100);
        Due.due(24, "the end", x.judge(0, 7), 100);
        Due.due(24, "beyond the end", x.judge(0, Integer.MAX_VALUE), 100);
        Due.due(24, "far below", x.judge(0, Integer.MIN_VALUE), 100);
        fill(x, 0, 0, 10, 20);
        Due.due(24, "the row ends behind two", x.judge(0, 0), 102);
        fill(x, 0, 0, 10);
        Due.due(24, "the row ends behind one", x.judge(0, 0), 101);
        x.tape(0, 0, 0);
        Due.due(24, "a row of none", x.judge(0, 0), 100);
        fill(x, 0, 0, 266);
        Due.due(24, "266 is cut to 10", x.judge(0, 0), 101);
    }

    private static void judgeWithoutWearers() {
        BowlerDents x = new BowlerDents();
        Due.due(24, "nothing held, no wearers", x.judge(5, 0), Due.UNMET);
        Due.due(24, "place -1, no wearers", x.judge(5, -1), Due.UNMET);
        x.tape(5, 0, 2);
        Due.due(24, "beyond the end, no wearers", x.judge(5, 9), Due.UNMET);
        x.tape(5, 1, 2);
        Due.due(24, "shorts, no wearers", x.judge(5, 0), -12);
        Due.due(24, "tape 6, no wearers", x.judge(6, 0), -1);
    }

    private static void tape() {
        BowlerDents x = new BowlerDents();
        Due.due(31, "tape -1", x.tape(-1, 9, 99), -1);
        Due.due(31, "tape 6", x.tape(6, 0, 1), -1);
        Due.due(31, "sort 5", x.tape(0, 5, -1), -2);
        Due.due(31, "sort -2", x.tape(0, -2, 1), -2);
        Due.due(31, "n 61", x.tape(0, 0, 61), -2);
        Due.due(31, "n -1", x.tape(0, 0, -1), -14);
        Due.due(31, "n far below", x.tape(0, 4, Integer.MIN_VALUE), -14);
        Due.due(31, "nothing came", x.item(0, 0, 1), -11);
        Due.due(31, "n 60", x.tape(5, 3, 60), 1);
        Due.due(31, "the last item", x.item(5, 59, 7), 1);
        Due.due(31, "beyond", x.item(5, 60, 7), -13);
        Due.due(31, "again", x.tape(5, 3, 60), 1);
        Due.due(31, "all 0 again", x.read(5, 59), 0);
        x.item(5, 0, 7);
        x.tape(5, 3, 1);
        Due.due(31, "item 0 is 0 again", x.read(5, 0), 0);
        Due.due(31, "n 0", x.tape(5, 0, 0), 1);
        Due.due(31, "no item", x.item(5, 0, 1), -13);
        Due.due(31, "nothing, n does not matter", x.tape(5, -1, -99), 1);
        Due.due(31, "nothing, n does not matter", x.tape(5, -1, 99), 1);
        Due.due(31, "nothing is held", x.item(5, 0, 1), -11);
    }

    private static void item(int sort, long v, long want) {
        BowlerDents x = new BowlerDents();
        x.tape(2, sort, 2);
        Due.due(32, "item of sort " + sort, x.item(2, 1, v), 1);
        Due.due(32, v + " in sort " + sort, x.read(2, 1), want);
        Due.due(32, "its neighbour", x.read(2, 0), 0);
    }

    private static void item() {
        item(0, 127, 127);
        item(0, 128, -128);
        item(0, 511, -1);
        item(1, 32767, 32767);
        item(1, 32768, -32768);
        item(1, 70000, 4464);
        item(2, Integer.MAX_VALUE, Integer.MAX_VALUE);
        item(2, 1L << 31, Integer.MIN_VALUE);
        item(2, (1L << 40) + 5, 5);
        item(3, Long.MAX_VALUE, Long.MAX_VALUE);
        item(3, Long.MIN_VALUE, Long.MIN_VALUE);
        item(4, 0, 0);
        item(4, 1, 1);
        item(4, -8, 1);
        item(4, 1L << 40, 1);
        BowlerDents x = new BowlerDents();
        Due.due(32, "tape -1", x.item(-1, 0, 0), -1);
        Due.due(32, "tape 6", x.item(6, 0, 0), -1);
        Due.due(32, "nothing", x.item(0, -1, 0), -11);
        x.tape(0, 2, 3);
        Due.due(32, "place -1", x.item(0, -1, 0), -13);
        Due.due(32, "place 3", x.item(0, 3, 0), -13);
    }

    private static void read() {
        BowlerDents x = new BowlerDents();
        Due.due(33, "nothing", x.read(3, 0), Due.NO);
        fill(x, 3, 2, 4, 5);
        Due.due(33, "item 0", x.read(3, 0), 4);
        Due.due(33, "item 1", x.read(3, 1), 5);
        Due.due(33, "place 2", x.read(3, 2), Due.NO);
        Due.due(33, "place -1", x.read(3, -1), Due.NO);
        Due.due(33, "tape 6", x.read(6, 0), Due.NO);
        Due.due(33, "tape -1", x.read(-1, 0), Due.NO);
        x.tape(3, -1, 0);
        Due.due(33, "nothing again", x.read(3, 0), Due.NO);
    }

    private static void holds(String when, BowlerDents x, int tape, int... want) {
        for (int i = 0; i < want.length; i++) {
            Due.due(34, when + ": item " + i, x.read(tape, i), want[i]);
        }
    }

    private static void shift() {
        BowlerDents x = new BowlerDents();
        fill(x, 0, 2, 1, 2, 3, 4, 5);
        fill(x, 1, 2, 6, 7, 8);
        Due.due(34, "to another", x.shift(0, 1, 1, 0, 2), 2);
        holds("to another", x, 1, 2, 3, 8);
        holds("from", x, 0, 1, 2, 3, 4, 5);
        Due.due(34, "up in the same", x.shift(0, 0, 0, 1, 4), 4);
        holds("up in the same", x, 0, 1, 1, 2, 3, 4);
        Due.due(34, "down in the same", x.shift(0, 1, 0, 0, 4), 4);
        holds("down in the same", x, 0, 1, 2, 3, 4, 4);
        Due.due(34, "none, at both ends", x.shift(0, 5, 1, 3, 0), 0);
        Due.due(34, "all", x.shift(1, 0, 0, 2, 3), 3);
        holds("all", x, 0, 1, 2, 2, 3, 8);
    }

    private static void shiftRefused() {
        BowlerDents x = new BowlerDents();
        fill(x, 0, 2, 1, 2, 3, 4, 5);
        fill(x, 1, 2, 6, 7, 8);
        fill(x, 2, 1, 9, 9, 9);
        Due.due(34, "tape -1", x.shift(-1, 0, 4, 0, 1), -1);
        Due.due(34, "tape 6", x.shift(6, 0, 4, 0, 1), -1);
        Due.due(34, "other 6", x.shift(4, 0, 6, 0, 1), -1);
        Due.due(34, "other -1", x.shift(4, 0, -1, 0, 1), -1);
        Due.due(34, "tape 5 holds nothing", x.shift(5, 0, 0, 0, 1), -11);
        Due.due(34, "other 5 holds nothing", x.shift(0, 0, 5, 0, 1), -11);
        Due.due(34, "nothing to take", x.shift(4, 0, 2, 0, -1), -11);
        Due.due(34, "nothing to come to", x.shift(0, 0, 4, 0, -1), -11);
        Due.due(34, "unlike sorts", x.shift(0, 0, 2, 0, -1), -12);
        Due.due(34, "n -1", x.shift(0, 0, 1, 0, -1), -13);
        Due.due(34, "i -1", x.shift(0, -1, 1, 0, 1), -13);
        Due.due(34, "j -1", x.shift(0, 0, 1, -1, 1), -13);
        Due.due(34, "beyond the one's end", x.shift(0, 4, 1, 0, 2), -13);
        Due.due(34, "beyond the other's end", x.shift(0, 0, 1, 2, 2), -13);
        Due.due(34, "i beyond the end, none", x.shift(0, 6, 1, 0, 0), -13);
        Due.due(34, "j beyond the end, none", x.shift(0, 0, 1, 4, 0), -13);
        Due.due(34, "far beyond", x.shift(0, 1, 1, 1, Integer.MAX_VALUE), -13);
        Due.due(34, "i far beyond", x.shift(0, Integer.MAX_VALUE, 1, 0, 1), -13);
        Due.due(34, "n far below", x.shift(0, 0, 1, 0, Integer.MIN_VALUE), -13);
        holds("nothing changed", x, 1, 6, 7, 8);
    }
}
