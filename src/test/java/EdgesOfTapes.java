import java.util.Arrays;

/** Terms 3: the edges of tapes, judging and refusals; and the answers. */
final class EdgesOfTapes {
    private static final int T = Edge.TERMS;

    private EdgesOfTapes() {
    }

    static void run() {
        tapes();
        booleans();
        judged();
        judgedWithoutWearers();
        judgedToTheEnd();
        refusals();
        answers();
        firstNamed();
        maybeBelowNone();
        Edge.none(T, "==== 3 ");
    }

    /** A row of bytes, or of another sort. */
    private static Run row(Run r, int tape, int sort, long... items) {
        r.does("tape(" + tape + ", " + sort + ", " + items.length + ")");
        for (int i = 0; i < items.length; i++) {
            r.does("item(" + tape + ", " + i + ", " + items[i] + ")");
        }
        return r;
    }

    private static void tapes() {
        Edge.of(T, "TAPES 0 .. 5 hold nothing (at first), or a row of 0 bytes, 1 shorts, 2 ints, 3 longs, 4 booleans "
            + "(items 0, 1). ");
        Run r = new Run();
        for (int t = 0; t <= 5; t++) {
            r.is("read(" + t + ", 0)", Edge.NO).is("item(" + t + ", 0, 1)", Edge.NOTHING);
            r.is("shift(" + t + ", 0, " + t + ", 0, 0)", Edge.NOTHING);
        }
        r.is("tape(-1, 0, 1)", Edge.NONE).is("tape(6, 0, 1)", Edge.NONE);
        long[] most = {127, 32767, Integer.MAX_VALUE, Long.MAX_VALUE, 1};
        String[] beyond = {"128", "32768", "2147483648", "MIN", "2"};
        long[] became = {-128, -32768, Integer.MIN_VALUE, Long.MIN_VALUE, 1};
        for (int sort = 0; sort <= 4; sort++) {
            r.is("tape(0, " + sort + ", 2)", 1).is("read(0, 0)", 0).is("read(0, 1)", 0).is("read(0, 2)", Edge.NO);
            r.is("item(0, 1, " + most[sort] + ")", 1).is("read(0, 1)", most[sort]);
            r.is("item(0, 1, " + beyond[sort] + ")", 1).is("read(0, 1)", became[sort]).is("read(0, 0)", 0);
            r.is("item(0, 1, -1)", 1).is("read(0, 1)", sort == 4 ? 1 : -1).is("item(0, 1, 0)", 1).is("read(0, 1)", 0);
        }
        for (int t = 1; t <= 5; t++) {
            r.is("read(" + t + ", 0)", Edge.NO).is("tape(" + t + ", 3, 60)", 1).is("item(" + t + ", 59, " + t + ")", 1);
        }
        for (int t = 1; t <= 5; t++) {
            r.is("read(" + t + ", 59)", t).is("read(" + t + ", 60)", Edge.NO).is("read(" + t + ", 58)", 0);
        }
    }

    private static void booleans() {
        String[] values = {"0", "1", "2", "-1", "256", "65536", "4294967296", "MIN", "MAX"};
        Run r = new Run().does("tape(2, 4, 1)");
        for (String v : values) {
            r.is("item(2, 0, " + v + ")", 1).is("read(2, 0)", v.equals("0") ? 0 : 1);
        }
        long[][] cut = {{0, 255, -1}, {0, 256, 0}, {0, -129, 127}, {1, 65535, -1}, {1, 65536, 0}, {1, -32769, 32767},
            {2, 4294967295L, -1}, {2, 4294967296L, 0}, {2, -2147483649L, 2147483647}, {3, 4294967296L, 4294967296L}};
        for (long[] c : cut) {
            r.does("tape(3, " + c[0] + ", 1)").is("item(3, 0, " + c[1] + ")", 1).is("read(3, 0)", c[2]);
        }
    }

    private static void judged() {
        Edge.of(T, "COVERS told by a row of bytes, from a place on, one by one, are JUDGED: the first that is otherwise "
            + "(counted from 0 from that place on); ");
        Run r = new Run().does("wearer(0, 0, 0)", "wearer(0, 0, 99)", "wearer(0, 0, 50)");
        row(r, 0, 0, 0, 99, 51, 0, 98, 50, 1, 99, 50);
        r.is("judge(0, 0)", 2).is("judge(0, 3)", 1).is("judge(0, 6)", 0).is("judge(0, 1)", 0).is("judge(0, 8)", 0);
        r.does("mend(2, 51)").is("judge(0, 0)", Edge.UNMET);
        // a byte is at most 127; what is cut is otherwise, or not
        row(r, 1, 0, 256, -157, 307).is("judge(1, 0)", Edge.UNMET);
        row(r, 1, 0, -1, 99, 51).is("judge(1, 0)", 0);
        row(r, 1, 0, 0, 99, 51).is("judge(1, 0)", Edge.UNMET).does("saying(0, 1)", "aim(0, 1)", "pass(1)");
        r.is("judge(1, 0)", 1).does("aim(0, -1)", "mend(1, 99)").is("judge(1, 0)", Edge.UNMET);
    }

    private static void judgedWithoutWearers() {
        Edge.of(T, "-5: none, or there are no WEARERS (wherever the place is, also if the TAPE holds nothing); ");
        String[] places = {"-1", "0", "1", "59", "60", "MIN", "MAX"};
        Run r = new Run().does("tape(1, 0, 0)", "tape(2, 0, 60)", "tape(3, 3, 1)");
        for (String place : places) {
            for (int t = 0; t <= 2; t++) {
                r.is("judge(" + t + ", " + place + ")", Edge.UNMET);
            }
            r.is("judge(3, " + place + ")", Edge.CAST).is("judge(6, " + place + ")", Edge.NONE);
        }
        r.does("wearer(0, 0, 0)").is("judge(2, 0)", Edge.UNMET).is("judge(2, 59)", Edge.UNMET);
        for (int p = 1; p <= 5; p++) {
            r.does("wearer(0, 0, 0)").is("judge(2, 0)", Edge.UNMET).is("judge(2, " + (59 - p) + ")", Edge.UNMET);
        }
    }

    private static void judgedToTheEnd() {
        Edge.of(T, "100 and how many were looked at, if the row ends ahead of that (or the place is below 0, or the TAPE "
            + "holds nothing). ");
        Run r = new Run();
        for (int p = 0; p < 6; p++) {
            r.does("wearer(0, 0, 1" + p + ")");
        }
        r.is("judge(5, 0)", 100).is("judge(5, -1)", 100).is("judge(5, 60)", 100).is("judge(5, MAX)", 100);
        row(r, 5, 0, 10, 11, 12, 13, 14, 15).is("judge(5, 0)", Edge.UNMET).is("judge(5, -1)", 100);
        r.is("judge(5, MIN)", 100).is("judge(5, 6)", 100).is("judge(5, 7)", 100).is("judge(5, MAX)", 100);
        r.is("judge(5, 5)", 0).is("judge(5, 1)", 0);
        long[] all = {10, 11, 12, 13, 14};
        for (int n = 0; n <= 5; n++) {
            row(r, 4, 0, Arrays.copyOf(all, n)).is("judge(4, 0)", 100 + n).is("judge(4, " + n + ")", 100);
        }
        row(r, 4, 0, 7, 10, 11, 12).is("judge(4, 1)", 103).is("judge(4, 0)", 0).is("judge(4, 3)", 0);
        row(r, 4, 0, 10, 11, 13).is("judge(4, 0)", 2);
        row(r, 4, 0, new long[60]).does("item(4, 59, 10)").is("judge(4, 59)", 101).is("judge(4, 60)", 100);
        r.is("tape(4, -1, 0)", 1).is("judge(4, 0)", 100);
    }

    private static void refusals() {
        Edge.of(T, "The host's refusals: NOTHING (-11): nothing is there; CAST (-12): another sort or KIND; PLACE (-13): no "
            + "such place; SIZE (-14): a size below 0.");
        Run r = new Run().is("taken(0, 0)", -11).is("item(0, 0, 0)", -11).is("shift(0, 0, 1, 0, 0)", -11);
        r.does("wearer(1, 0, 0)").is("taken(0, 2)", -12).is("tape(0, 0, -1)", -14).is("tape(0, 4, MIN)", -14);
        r.does("tape(0, 1, 1)", "tape(1, 2, 1)").is("shift(0, 0, 1, 0, 0)", -12).is("judge(0, 0)", -12);
        r.is("item(0, 1, 0)", -13).is("item(0, -1, 0)", -13).is("shift(0, 0, 0, 0, 2)", -13);
        r.is("shift(0, 1, 0, 0, 1)", -13).is("shift(0, 0, 0, 1, 1)", -13).is("shift(0, 0, 0, 0, -1)", -13);
    }

    private static void answers() {
        Edge.of(T, "Answers: NONE (-1) no such number; BAD (-2) a number is not as told; STATE (-3) as told; FULL (-4); ");
        new Run().is("wearer(7, 0, 0)", -1).is("wearer(0, 10, 0)", -2).is("undo()", -3).does("wearer(0, 0, 0)",
            "see(0, 0, 0)", "see(0, 0, 0)", "see(0, 0, 0)", "see(0, 0, 0)", "see(0, 0, 0)").is("see(0, 0, 0)", -4);
        Edge.due("the constant NONE", BowlerDents.NONE, -1);
        Edge.due("the constant BAD", BowlerDents.BAD, -2);
        Edge.due("the constant STATE", BowlerDents.STATE, -3);
        Edge.due("the constant FULL", BowlerDents.FULL, -4);
        Edge.due("the constant NO", BowlerDents.NO, Long.MIN_VALUE);
    }

    /** All that refuses at once; then what is named first is mended, and the next shows. */
    private static void firstNamed() {
        Edge.of(T, "the first that a call's words name. ");
        Run r = new Run();
        for (int p = 0; p < 6; p++) {
            r.does("wearer(0, 0, 0)");
        }
        for (int s = 0; s < 8; s++) {
            r.does("saying(0, 1)");
        }
        r.is("wearer(7, 10, 100)", -1).is("wearer(6, 10, 100)", -2).is("wearer(6, 9, 100)", -2).is("wearer(6, 9, 99)", -4);
        r.is("saying(61, 10)", -2).is("saying(60, 10)", -2).is("saying(60, 9)", -4);
        r.is("mend(6, 100)", -1).is("mend(5, 100)", -2).is("row(6, 4, 10)", -1).is("row(5, 4, 10)", -1);
        r.is("row(5, 3, 10)", -2).is("row(5, 3, 9)", -3).is("on(61, 16)", -1).is("on(61, 15)", -2);
        r.is("best(13, 9)", -1).is("best(13, 0)", -2).is("best(21, 18)", -1).is("best(21, 17)", -2).is("best(13, 17)", 0);
        for (int i = 0; i < 10; i++) {
            r.does("see(0, 0, 0)", "ache(0, 0, true)", "plan(0, 0)", "book(0, 0)");
        }
        r.is("see(6, 13, 100)", -1).is("see(5, 13, 100)", -2).is("see(5, 12, 100)", -2).is("see(5, 12, 99)", -4);
        r.is("ache(6, 13, true)", -1).is("ache(5, 13, true)", -2).is("ache(5, 12, true)", -4);
        r.is("plan(4, 9)", -1).is("plan(3, 6)", -1).is("plan(3, 5)", -4).is("plan(2, 8)", -1).is("plan(2, 7)", -4);
        r.is("book(6, 100)", -1).is("book(5, 100)", -2).is("book(5, 99)", -4);
        r.is("taken(6, 7)", -2).is("taken(6, 6)", -11).is("taken(5, 6)", -12).is("taken(5, 0)", 0);
        r.is("tape(6, 5, 61)", -1).is("tape(5, 5, 61)", -2).is("tape(5, 5, -1)", -2).is("tape(5, 4, 61)", -2);
        r.is("tape(5, 4, -1)", -14).is("item(6, -1, 0)", -1).is("item(5, -1, 0)", -11);
        r.does("tape(4, 4, 1)", "tape(3, 3, 1)").is("shift(6, -1, 5, -1, -1)", -1).is("shift(5, -1, 6, -1, -1)", -1);
        r.is("shift(5, -1, 4, -1, -1)", -11).is("shift(4, -1, 5, -1, -1)", -11).is("shift(4, -1, 3, -1, -1)", -12);
        r.is("shift(4, -1, 4, -1, -1)", -13).is("judge(6, -1)", -1).is("judge(4, -1)", -12).is("judge(5, -1)", 100);
        r.is("pass(61)", -2).days(9960).is("pass(61)", -2).is("pass(40)", -3);
        r = new Run().text("!".repeat(100)).is("feed(128)", -2).is("feed(127)", -4);
    }

    private static void maybeBelowNone() {
        Edge.of(T, "Where it may be below 0, -10001 stands for NONE. ");
        Run r = new Run().does("wearer(4, 0, 50)", "saying(0, 1)").city("weak 99 p=0" + ";weak 99 p=0".repeat(7));
        // twice 10 less 792: far below NONE, not so far as -10001
        r.is("of(0, 10)", 2 * (10 - 792)).is("of(0, 11)", -10001).is("of(0, 9)", -10001).is("of(0, 8)", -10001);
        r.is("of(1, 10)", -10001).is("of(-1, 0)", -10001).is("of(0, -1)", -10001).is("of(0, MIN)", -10001);
        r.is("of(0, MAX)", -10001).does("mend(0, 49)").is("of(0, 10)", 9 - 792);
        r = new Run().does("wearer(0, 0, 4)", "saying(0, 1)").city("weak 1 p=0").is("of(0, 10)", -1).city("weak 5 p=0");
        r.is("of(0, 10)", -5);
    }
}
