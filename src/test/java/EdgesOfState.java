import java.util.ArrayList;
import java.util.Arrays;
import java.util.List;

/**
 * What is refused or asked changes nothing: of two objects that were built alike, one is called so once more, and from
 * then on both answer alike, also what lays open THE TEXT, THE IMAGE and the ROWS.
 */
final class EdgesOfState {
    private static final String[] REFUSED = {
        "wearer(-1, 0, 0)", "wearer(7, 0, 0)", "wearer(0, -1, 0)", "wearer(0, 10, 0)", "wearer(0, 0, -1)",
        "wearer(6, 0, 100)", "saying(-1, 1)", "saying(61, 1)", "saying(0, 0)", "saying(60, 10)", "aim(8, 0)", "aim(-1, -1)",
        "aim(0, 6)", "aim(0, -2)", "mend(6, 0)", "mend(-1, 0)", "mend(0, -1)", "mend(0, 100)", "row(6, 0, 1)", "row(5, 4, 1)",
        "row(5, -1, 1)", "row(5, 0, 10)", "row(5, 0, -1)", "row(0, 0, 1)", "feed(-1)", "feed(128)", "pass(-1)", "pass(61)",
        "on(-1, 0)", "on(61, 0)", "on(1, 1)", "on(1, 16)", "best(0, 0)", "best(13, 0)", "best(21, 1)", "best(21, 10)",
        "best(1, 2)", "best(1, 18)", "see(6, 0, 0)", "see(-2, 0, 0)", "see(0, 13, 0)", "see(0, -1, 0)", "see(0, 0, 100)",
        "see(0, 0, -1)", "ache(6, 0, true)", "ache(-2, 0, true)", "ache(0, 13, true)", "ache(0, -1, true)", "can(6, 0)",
        "can(0, 2)", "odds(8, 0, 1, 0)", "odds(0, 6, 1, 0)", "odds(0, 0, 21, 0)", "odds(0, 0, 1, 2)", "mean(61, 0)",
        "mean(0, 2)", "plan(4, 0)", "plan(-2, 0)", "plan(1, 6)", "plan(3, -1)", "plan(2, 8)", "plan(2, -1)", "ends(2)",
        "book(6, 0)", "book(-2, 0)", "book(0, 100)", "book(0, -1)", "judge(6, 0)", "judge(1, 0)", "judge(0, 99)", "trace(99)",
        "taken(0, 7)", "taken(6, 0)", "taken(0, 1)", "count(9)", "tape(6, 0, 1)", "tape(0, 5, 1)", "tape(0, -2, 1)",
        "tape(0, 0, 61)", "tape(0, 0, -1)", "item(6, 0, 1)", "item(5, 0, 1)", "item(0, -1, 1)", "item(0, 3, 1)", "read(6, 0)",
        "read(0, 3)", "shift(6, 0, 0, 0, 1)", "shift(5, 0, 0, 0, 1)", "shift(0, 0, 1, 0, 1)", "shift(0, 0, 0, 1, 3)",
        "shift(0, 0, 0, 1, -1)", "shift(0, -1, 0, 0, 1)", "shift(0, 0, 0, -1, 1)", "of(6, 0)", "of(0, 8)", "phrase(8, 0)",
        "phrase(0, 3)", "told(5)"};
    private static final String[] FULL = {
        "wearer(0, 0, 0)", "saying(0, 1)", "feed(114)", "city()", "see(0, 0, 0)", "ache(0, 0, false)", "plan(0, 0)",
        "plan(1, 0)", "book(0, 0)"};
    private static final String[] ASKED = {
        "of(0, 0)", "of(0, 1)", "of(0, 2)", "of(0, 3)", "of(0, 4)", "of(0, 5)", "of(5, 5)", "of(0, 6)", "of(5, 6)",
        "of(3, 7)", "of(5, 10)", "phrase(0, 0)", "phrase(7, 2)", "told(0)", "told(1)", "told(2)", "told(3)", "told(4)",
        "on(0, 0)", "on(60, 0)", "on(60, 10)", "on(60, 25)", "on(60, 34)", "best(12, 0)", "best(1, 0)", "best(20, 1)",
        "best(1, 1)", "best(20, 10)", "best(20, 17)", "can(0, 0)", "can(1, 1)", "odds(0, 0, 20, 0)", "odds(7, 5, 20, 1)",
        "mean(60, 0)", "mean(60, 1)", "ends(0)", "ends(1)", "looked()", "judge(0, 0)", "judge(5, 0)", "trace(0)",
        "taken(5, 3)", "count(8)", "read(0, 0)"};

    private EdgesOfState() {
    }

    static void run() {
        Edge.of(Edge.TERMS, "What is answered so changes nothing; what is asked changes nothing.");
        for (boolean isFull : new boolean[] {false, true}) {
            long[] want = probed(built(isFull));
            unchanged(isFull, REFUSED, want);
            unchanged(isFull, ASKED, want);
        }
        unchanged(true, FULL, probed(built(true)));
        beforeTheImage();
        lateDays();
        probeTells();
    }

    private static Run built(boolean isFull) {
        Run r = new Run();
        int[] kinds = {0, 1, 2, 3, 4, 6};
        for (int p = 0; p < kinds.length; p++) {
            r.does("wearer(" + kinds[p] + ", " + (p + 2) + ", " + (15 * p + 20) + ")");
        }
        for (int s = 0; s < 8; s++) {
            r.does("saying(" + (7 * s + 9) + ", " + (s % 3 + 1) + ")", "aim(" + s + ", " + s % 6 + ")");
        }
        r.does("row(5, 0, 3)", "row(5, 1, 9)").city("firm 3 v>3;rub 2").days(2);
        r.does("see(0, 1, 18)", "see(3, 2, 60)", "ache(1, 2, true)", "ache(4, 1, true)", "plan(0, 0)", "plan(2, 1)");
        r.does("plan(1, 2)", "book(0, 16)", "book(1, 31)").does("image()");
        for (int i = 0; i < (isFull ? 9 : 1); i++) {
            r.does("see(1, 0, 33)", "ache(2, 1, true)", "plan(0, 0)", "book(2, 46)");
        }
        r.days(1).does("mend(0, 44)", "row(5, 2, 8)", "aim(7, -1)", "act(5, 2, 3)");
        r.does("tape(0, 0, 3)", "item(0, 0, 44)", "item(0, 2, 7)", "tape(1, 3, 2)", "item(1, 1, MAX)", "tape(2, 4, 0)");
        for (int c = 1; c < (isFull ? 6 : 2); c++) {
            r.city("rub " + c);
        }
        return r.text(isFull ? "x".repeat(100) : "rub 8;rub");
    }

    /** All that there is: what can be read, then what THE TEXT and THE IMAGE hold. */
    private static long[] probed(Run r) {
        List<Long> answers = new ArrayList<>();
        read(r, answers);
        for (String call : new String[] {"feed(32)", "feed(55)", "city()", "told(1)", "undo()"}) {
            answers.add(r.ask(call));
        }
        read(r, answers);
        for (int part = 0; part < 4; part++) {
            answers.add(r.ask("row(5, " + part + ", 0)"));
        }
        long[] all = new long[answers.size()];
        Arrays.setAll(all, answers::get);
        return all;
    }

    private static void read(Run r, List<Long> answers) {
        for (int i = 0; i <= 8; i++) {
            answers.add(r.ask("count(" + i + ")"));
        }
        for (int i = 0; i <= 4; i++) {
            answers.add(r.ask("told(" + i + ")"));
        }
        for (int p = 0; p < 6; p++) {
            for (int what : new int[] {1, 2, 3, 4, 6, 10}) {
                answers.add(r.ask("of(" + p + ", " + what + ")"));
            }
        }
        for (int s = 0; s < 8; s++) {
            answers.add(r.ask("phrase(" + s + ", 2)"));
        }
        for (String call : new String[] {"of(5, 11)", "of(5, 12)", "of(5, 13)", "of(3, 7)", "can(0, 0)", "can(2, 0)",
            "can(4, 1)", "ends(0)", "ends(1)", "looked()", "read(0, 0)", "read(0, 1)", "read(0, 2)", "read(1, 1)", "read(2, 0)",
            "item(2, 0, 0)", "item(5, 0, 0)", "trace(0)", "trace(4)", "trace(11)", "trace(12)", "on(20, 0)"}) {
            answers.add(r.ask(call));
        }
    }

    private static void unchanged(boolean isFull, String[] calls, long[] want) {
        for (String call : calls) {
            Run r = built(isFull);
            r.ask(call);
            alike(call, probed(r), want);
        }
    }

    private static void alike(String call, long[] got, long[] want) {
        for (int i = 0; i < want.length; i++) {
            Edge.due("what is read (" + i + ") behind " + call, got[i], want[i]);
        }
    }

    /** Refused for there is no IMAGE. */
    private static void beforeTheImage() {
        Run r = new Run().does("wearer(6, 3, 50)", "row(0, 1, 5)", "saying(40, 1)", "saying(0, 1)", "aim(0, 0)", "pass(1)");
        r.text("rub").is("undo()", Edge.STATE).is("of(0, 2)", 47).is("of(0, 3)", 1).is("of(0, 4)", 34).is("of(0, 11)", 10);
        r.is("told(0)", 1).is("count(7)", 3).is("phrase(0, 2)", 0).is("undo()", Edge.STATE).is("row(0, 1, 0)", 5);
    }

    /** Refused for it would be too late. */
    private static void lateDays() {
        Run r = new Run().does("wearer(0, 0, 99)").days(9990).does("saying(60, 1)", "aim(0, 0)", "see(0, 0, 99)");
        for (int n = 10; n <= 61; n++) {
            r.is("pass(" + n + ")", n == 61 ? Edge.BAD : Edge.STATE);
        }
        r.is("told(0)", 9990).is("of(0, 2)", 99).is("of(0, 3)", 0).is("of(0, 4)", 0).is("of(0, 6)", 1).is("pass(9)", 9999);
    }

    /** What is read does tell one object from another that was changed. */
    private static void probeTells() {
        String[] changes = {"mend(0, 43)", "row(5, 2, 7)", "row(5, 3, 1)", "aim(7, 3)", "pass(1)", "see(-1, 0, 0)",
            "ache(-1, 0, true)", "plan(-1, 0)", "book(-1, 0)", "see(0, 0, 0)", "feed(32)", "city()", "image()", "undo()",
            "act(0, 0, 0)", "act(6, 0, 0)", "tape(0, -1, 0)", "item(0, 2, 8)", "saying(0, 1)", "wearer(0, 0, 0)"};
        long[] want = probed(built(false));
        for (String change : changes) {
            boolean isFullAnyway = change.startsWith("saying") || change.startsWith("wearer");
            Run r = built(false);
            r.ask(change);
            Edge.due("whether " + change + " can be read", Arrays.equals(probed(r), want) ? 0 : 1, isFullAnyway ? 0 : 1);
        }
    }
}
