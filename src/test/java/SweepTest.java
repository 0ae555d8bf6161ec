import java.util.ArrayList;
import java.util.List;

/**
 * Every call with every edge of each of its numbers, all together, on objects that hold nothing, something and all
 * there can be: answered by the program as by the document told a second time (Plain).
 */
public final class SweepTest {
    private static final int CALLS_OF_ONE = 200;
    private static final long[] BEYOND = {Integer.MIN_VALUE, Integer.MAX_VALUE};

    private int asked = 0;
    private int wrong = 0;

    public static void main(String[] args) {
        SweepTest sweep = new SweepTest();
        for (int state = 0; state <= 3; state++) {
            sweep.sweep(state);
        }
        System.out.println(sweep.asked + " answers asked, " + sweep.wrong + " wrong");
        if (sweep.wrong != 0) {
            System.exit(1);
        }
    }

    /** The numbers about both ends, one between, and the last that an int holds. */
    private static long[] about(int least, int most) {
        return new long[] {BEYOND[0], least - 1, least, least + 1, (least + most) / 2, most - 1, most, most + 1, BEYOND[1]};
    }

    /** All numbers from a little below to a little above. */
    private static long[] all(int least, int most) {
        long[] numbers = new long[most - least + 5];
        numbers[0] = BEYOND[0];
        numbers[1] = BEYOND[1];
        for (int i = 2; i < numbers.length; i++) {
            numbers[i] = least - 1 + i - 2;
        }
        return numbers;
    }

    private static long[] few(long... numbers) {
        return numbers;
    }

    private static List<String> calls() {
        List<String> calls = new ArrayList<>();
        add(calls, "of", all(0, 5), all(-1, 18));
        add(calls, "phrase", all(0, 7), all(0, 2));
        add(calls, "told", all(0, 4));
        add(calls, "on", about(0, 60), all(0, 40));
        add(calls, "best", all(1, 20), few(-1, 0, 1, 2, 9, 10, 13, 17, 18, BEYOND[0], BEYOND[1]));
        add(calls, "can", all(0, 5), all(0, 1));
        add(calls, "odds", all(0, 7), all(0, 5), few(-1, 0, 1, 20, 21), all(0, 1));
        add(calls, "mean", all(0, 60), all(0, 1));
        add(calls, "ends", all(0, 1));
        add(calls, "looked");
        add(calls, "judge", all(0, 5), about(0, 60));
        add(calls, "judge", all(0, 5), all(0, 7));
        add(calls, "trace", all(0, 20));
        add(calls, "taken", all(0, 5), all(0, 6));
        add(calls, "count", all(0, 8));
        add(calls, "read", all(0, 5), about(0, 60));
        add(calls, "read", all(0, 5), all(0, 7));
        add(calls, "act", all(0, 5), all(0, 2), few(0, 1, -1, 715827883, 1073741824, BEYOND[0], BEYOND[1]));
        addChanges(calls);
        return calls;
    }

    private static void addChanges(List<String> calls) {
        add(calls, "wearer", about(0, 6), about(0, 9), about(0, 99));
        add(calls, "saying", about(0, 60), about(1, 9));
        add(calls, "aim", all(0, 7), all(-1, 5));
        add(calls, "mend", all(0, 5), about(0, 99));
        add(calls, "row", all(0, 5), all(0, 3), about(0, 9));
        add(calls, "feed", about(0, 127));
        add(calls, "city");
        add(calls, "pass", about(0, 60));
        add(calls, "see", all(-1, 5), about(0, 12), about(0, 99));
        add(calls, "plan", all(-1, 3), all(0, 7));
        add(calls, "book", all(-1, 5), about(0, 99));
        add(calls, "undo");
        add(calls, "tape", all(0, 5), all(-1, 4), about(0, 60));
        add(calls, "item", all(0, 5), about(0, 7), few(0, 1, -1, 128, 32768, 2147483648L, 4294967296L, Long.MIN_VALUE));
        add(calls, "shift", few(-1, 0, 1, 3, 5, 6), few(-1, 0, 2, 3, 4), few(-1, 0, 1, 3, 5, 6), few(-1, 0, 2, 3, 4),
            few(-1, 0, 1, 3, 4, BEYOND[1]));
        add(calls, "image");
        for (long wearer : all(-1, 5)) {
            for (long n : about(0, 12)) {
                calls.add("ache(" + wearer + ", " + n + ", " + (n % 2 == 0) + ")");
            }
        }
    }

    private static void add(List<String> calls, String name, long[]... numbers) {
        List<String> begun = List.of("");
        for (long[] choice : numbers) {
            List<String> next = new ArrayList<>();
            for (String start : begun) {
                for (long number : choice) {
                    next.add(start + (start.isEmpty() ? "" : ", ") + number);
                }
            }
            begun = next;
        }
        for (String inner : begun) {
            calls.add(name + "(" + inner + ")");
        }
    }

    private void sweep(int state) {
        Run x = null;
        Run plain = null;
        int ofOne = CALLS_OF_ONE;
        for (String call : calls()) {
            if (ofOne == CALLS_OF_ONE) {
                x = build(new Run(), state);
                plain = build(Run.plain(), state);
                ofOne = 0;
            }
            long got = x.ask(call);
            long want = plain.ask(call);
            ofOne++;
            asked++;
            if (got != want) {
                wrong++;
                System.out.println("state " + state + ": " + call + " answered " + got + ", due is " + want);
            }
        }
    }

    /** 0: nothing. 1: one of each. 2: some, as they are on a late DAY. 3: all there can be. */
    private static Run build(Run r, int state) {
        switch (state) {
            case 0:
                return r;
            case 1:
                r.does("wearer(6, 5, 60)", "saying(30, 2)", "aim(0, 0)", "see(0, 2, 57)", "ache(0, 1, true)", "plan(0, 0)");
                return r.does("book(0, 60)", "tape(0, 0, 1)", "item(0, 0, 60)").city("firm 9 v>3&d<5").does("image()");
            case 2:
                r.does("wearer(1, 4, 70)", "wearer(3, 2, 99)", "wearer(5, 9, 35)", "saying(27, 1)", "saying(50, 4)");
                r.city("rub 1;weak 7 d=0|d=9").days(9990).does("aim(0, 0)", "aim(1, 1)", "plan(1, 2)", "plan(0, 0)");
                return r.does("image()", "pass(9)", "ache(0, 4, true)", "see(1, 3, 98)", "tape(3, 3, 60)", "act(2, 2, 7)");
            default:
                return full(r);
        }
    }

    private static Run full(Run r) {
        int[] kinds = {6, 1, 2, 3, 4, 5};
        for (int p = 0; p < 6; p++) {
            r.does("wearer(" + kinds[p] + ", " + (9 - p) + ", " + (99 - 14 * p) + ")");
        }
        for (int s = 0; s < 8; s++) {
            r.does("saying(" + (60 - 7 * s) + ", " + (s + 1) + ")", "aim(" + s + ", " + s % 6 + ")");
        }
        for (int c = 0; c < 6; c++) {
            r.city("rub 2;firm " + c + " !k=6");
        }
        r.does("see(1, 2, 79)", "see(0, 0, 99)", "see(5, 1, 27)", "see(4, 12, 29)", "see(2, 3, 69)");
        r.does("ache(0, 1, true)", "ache(3, 12, true)", "ache(5, 5, false)", "ache(1, 0, false)", "ache(4, 9, true)");
        for (int i = 0; i < 10; i++) {
            r.does("plan(" + (i * 3 % 4) + ", " + i % 6 + ")", "book(" + i % 6 + ", " + (99 - 14 * (i % 6)) + ")");
        }
        r.does("tape(0, 0, 6)", "tape(1, 1, 3)", "tape(3, 1, 60)", "tape(4, 4, 0)").text("rub 3;rub 4");
        for (int p = 0; p < 6; p++) {
            r.does("item(0, " + p + ", " + (99 - 14 * p) + ")");
        }
        return r.does("image()", "act(0, 2, 9)");
    }
}
