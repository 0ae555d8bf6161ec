import java.util.ArrayList;
import java.util.List;

/** Long runs of calls, each answered by the program and by the document told a second time (Plain). */
public final class AgainstPlainTest {
    private static final int RUNS = 400, CALLS = 512;

    private long seed;
    private final BowlerDents x = new BowlerDents();
    private final Plain plain = new Plain();
    private final List<String> calls = new ArrayList<>();
    private String waiting = "";
    private long got;
    private long want;

    private AgainstPlainTest(int run) {
        seed = run * 7919L + 17;
    }

    public static void main(String[] args) {
        int wrong = 0;
        for (int run = 0; run < RUNS && wrong < 5; run++) {
            if (!new AgainstPlainTest(run).goes(run)) {
                wrong++;
            }
        }
        System.out.println(RUNS + " runs, " + wrong + " wrong");
        if (wrong != 0) {
            System.exit(1);
        }
    }

    /** The same numbers in every run of the test. */
    private int below(int n) {
        seed = seed * 6364136223846793005L + 1442695040888963407L;
        return (int) ((seed >>> 33) % n);
    }

    private int from(int... numbers) {
        return numbers[below(numbers.length)];
    }

    /** Mostly a number within, now and then one at an edge or beyond it. */
    private int about(int least, int most) {
        int way = below(40);
        switch (way) {
            case 0:
                return least - 1;
            case 1:
                return most + 1;
            case 2:
                return least;
            case 3:
                return most;
            case 4:
                return from(Integer.MIN_VALUE, Integer.MAX_VALUE, -1, -2, 100);
            default:
                return least + below(most - least + 1);
        }
    }

    private boolean goes(int run) {
        boolean isBusy = run % 4 != 3;
        for (int i = 0; i < CALLS; i++) {
            // few texts and days, so that covers and hurts are seldom all 0 or all at their most
            int group = isBusy && i < 40 ? from(0, 0, 0, 0, 0, 1) : from(0, 2, 2, 2, 2, 3, 3, 4, 5, 6);
            group = group == 6 && below(3) == 0 ? 7 : group == 4 && below(12) == 0 ? 1 : group;
            String call = next(group);
            calls.add(call + " = " + got);
            if (got != want) {
                System.out.println("run " + run + ", call " + i + ": " + call + " answered " + got + ", due is "
                    + want);
                calls.stream().skip(Math.max(0, calls.size() - 30)).forEach(c -> System.out.println("  " + c));
                return false;
            }
        }
        return true;
    }

    private void both(long answered, long due) {
        got = answered;
        want = due;
    }

    private String next(int group) {
        switch (group) {
            case 0:
                return build();
            case 1:
                return text();
            case 2:
                return ask();
            case 3:
                return hand();
            case 4:
                return days();
            case 5:
                return tapes();
            case 6:
                return acts();
            default:
                return count();
        }
    }

    private String build() {
        int a;
        int b;
        int c;
        switch (below(7)) {
            case 0:
                a = about(0, 6);
                b = about(0, 9);
                c = about(0, 99);
                both(x.wearer(a, b, c), plain.wearer(a, b, c));
                return "wearer " + a + " " + b + " " + c;
            case 1:
                a = about(0, 60);
                b = about(1, 9);
                both(x.saying(a, b), plain.saying(a, b));
                return "saying " + a + " " + b;
            case 2:
                a = about(0, 5);
                b = about(0, 99);
                both(x.mend(a, b), plain.mend(a, b));
                return "mend " + a + " " + b;
            case 3:
                a = about(0, 5);
                b = about(0, 3);
                c = about(0, 9);
                both(x.row(a, b, c), plain.row(a, b, c));
                return "row " + a + " " + b + " " + c;
            default:
                a = about(0, 7);
                b = below(8) == 0 ? -1 : about(0, 5);
                both(x.aim(a, b), plain.aim(a, b));
                return "aim " + a + " " + b;
        }
    }

    private String text() {
        if (waiting.isEmpty()) {
            waiting = made() + "\n";
        }
        // a whole text takes many calls: most of it is fed at once
        while (waiting.length() > 1) {
            int sign = waiting.charAt(0);
            waiting = waiting.substring(1);
            both(x.feed(sign), plain.feed(sign));
            if (got != want || below(30) == 0) {
                return "feed " + sign;
            }
        }
        waiting = "";
        if (below(9) == 0) {
            int sign = from(-1, 128, 0, 127, 59);
            both(x.feed(sign), plain.feed(sign));
            return "feed " + sign;
        }
        both(x.city(), plain.city());
        return "city";
    }

    /** A city, often with a sign too much, too few, or another. */
    private String made() {
        StringBuilder s = new StringBuilder();
        int clauses = below(10) == 0 ? 9 + below(3) : 1 + below(4);
        for (int i = 0; i < clauses; i++) {
            s.append(i > 0 ? ";" : "");
            if (clauses > 8 || below(4) == 0) {
                s.append("rub ").append(below(3) == 0 ? number() : "" + below(6));
            } else {
                s.append(below(2) == 0 ? "firm " : "weak ").append(number()).append(' ').append(either(0));
            }
        }
        int way = below(6);
        int at = below(s.length());
        char sign = "firmweakub 0123456789;&|!()<=>pkvscdxq".charAt(below(38));
        if (way == 0) {
            s.setCharAt(at, sign);
        } else if (way == 1) {
            s.insert(at, sign);
        } else if (way == 2) {
            s.deleteCharAt(at);
        } else if (way == 3 && below(3) == 0) {
            s.setLength(at);
        }
        return s.toString();
    }

    private String number() {
        return below(3) == 0 ? "" + below(10) : "" + below(10) + below(10);
    }

    private String either(int depth) {
        StringBuilder s = new StringBuilder(factor(depth));
        for (int i = 0; i < 2 && below(3) == 0; i++) {
            s.append(below(2) == 0 ? '|' : '&').append(factor(depth));
        }
        return s.toString();
    }

    private String factor(int depth) {
        int way = below(4);
        if (depth < 5 && way == 0 && (depth < 4 || below(4) == 0)) {
            return "!" + factor(depth + 1);
        }
        if (depth < 5 && way == 1 && (depth < 4 || below(4) == 0)) {
            return "(" + either(depth + 1) + ")";
        }
        char letter = "pkvscd".charAt(below(6));
        int n = letter == 'p' || letter == 'k' || letter == 's' ? below(7) : below(11);
        return "" + letter + "<=>".charAt(below(3)) + n;
    }

    private String ask() {
        int a;
        int b;
        int c;
        int d;
        switch (below(9)) {
            case 0:
            case 1:
                a = about(0, 5);
                b = below(2) == 0 ? 5 + below(3) : about(0, 17);
                both(x.of(a, b), plain.of(a, b));
                return "of " + a + " " + b;
            case 2:
                a = about(0, 7);
                b = about(0, 2);
                both(x.phrase(a, b), plain.phrase(a, b));
                return "phrase " + a + " " + b;
            case 3:
                a = about(0, 60);
                b = from(0, 10, 20, 30) + below(7);
                both(x.on(a, b), plain.on(a, b));
                return "on " + a + " " + b;
            case 4:
                a = about(1, below(2) == 0 ? 12 : 20);
                b = below(3) < 2 ? below(2) : about(10, 17);
                both(x.best(a, b), plain.best(a, b));
                return "best " + a + " " + b;
            case 5:
                a = about(0, 5);
                b = about(0, 1);
                both(x.can(a, b), plain.can(a, b));
                return "can " + a + " " + b;
            case 6:
                a = about(0, 7);
                b = about(0, 5);
                c = about(0, 20);
                d = about(0, 1);
                both(x.odds(a, b, c, d), plain.odds(a, b, c, d));
                return "odds " + a + " " + b + " " + c + " " + d;
            case 7:
                a = about(0, 60);
                b = about(0, 1);
                both(x.mean(a, b), plain.mean(a, b));
                return "mean " + a + " " + b;
            default:
                a = about(0, 4);
                both(x.told(a), plain.told(a));
                return "told " + a;
        }
    }

    private String hand() {
        int a = below(3) == 0 ? -1 : about(0, 5);
        int b = about(0, 12);
        int c;
        switch (below(8)) {
            case 0:
            case 1:
                // mostly what will be so
                c = below(3) == 0 ? about(0, 99) : plain.on(b, 10 + a);
                both(x.see(a, b, c), plain.see(a, b, c));
                return "see " + a + " " + b + " " + c;
            case 2:
            case 3:
                boolean isMore = below(4) == 0 ? below(2) == 0 : plain.on(b, 30 + a) > plain.on(0, 30 + a);
                both(x.ache(a, b, isMore), plain.ache(a, b, isMore));
                return "ache " + a + " " + b + " " + isMore;
            case 4:
                a = about(0, 3);
                b = about(0, 7);
                if (below(20) == 0) {
                    a = -1;
                }
                both(x.plan(a, b), plain.plan(a, b));
                return "plan " + a + " " + b;
            case 5:
                a = about(0, 1);
                both(x.ends(a), plain.ends(a));
                return "ends " + a;
            case 6:
                c = below(4) == 0 ? about(0, 99) : plain.of(a, 2);
                both(x.book(a, c), plain.book(a, c));
                return "book " + a + " " + c;
            default:
                both(x.looked(), plain.looked());
                return "looked";
        }
    }

    private String days() {
        int a;
        switch (below(6)) {
            case 0:
                both(x.image(), plain.image());
                return "image";
            case 1:
                if (below(3) == 0) {
                    both(x.undo(), plain.undo());
                    return "undo";
                }
                a = about(0, 60);
                both(x.pass(a), plain.pass(a));
                return "pass " + a;
            default:
                a = below(3);
                both(x.pass(a), plain.pass(a));
                return "pass " + a;
        }
    }

    private String tapes() {
        int a = about(0, 5) % 4;
        int b;
        int c;
        switch (below(8)) {
            case 0:
                b = below(3) == 0 ? about(-1, 4) : 0;
                c = below(3) == 0 ? about(0, 60) : below(8);
                both(x.tape(a, b, c), plain.tape(a, b, c));
                return "tape " + a + " " + b + " " + c;
            case 1:
            case 2:
                b = about(0, 7);
                long v = below(2) == 0 ? plain.of(b, 2) : ((long) below(1 << 30) << 34) + below(70000) - 100;
                both(x.item(a, b, v), plain.item(a, b, v));
                return "item " + a + " " + b + " " + v;
            case 3:
                b = about(0, 7);
                both(x.read(a, b), plain.read(a, b));
                return "read " + a + " " + b;
            case 4:
                b = below(4);
                int i = about(0, 3);
                int j = about(0, 3);
                c = about(0, 4);
                both(x.shift(a, i, b, j, c), plain.shift(a, i, b, j, c));
                return "shift " + a + " " + i + " " + b + " " + j + " " + c;
            default:
                b = below(2) == 0 ? 0 : about(0, 8);
                both(x.judge(a, b), plain.judge(a, b));
                return "judge " + a + " " + b;
        }
    }

    private String acts() {
        int a = about(0, 5);
        int b;
        int c;
        switch (below(4)) {
            case 0:
                b = about(0, 2);
                c = below(4) == 0 ? about(-9, 9) : below(1 << 30) * from(1, -2, 3);
                both(x.act(a, b, c), plain.act(a, b, c));
                return "act " + a + " " + b + " " + c;
            case 1:
            case 2:
                b = about(0, 12);
                both(x.trace(b), plain.trace(b));
                return "trace " + b;
            default:
                b = about(0, 6);
                both(x.taken(a, b), plain.taken(a, b));
                return "taken " + a + " " + b;
        }
    }

    private String count() {
        int a = about(0, 8);
        both(x.count(a), plain.count(a));
        return "count " + a;
    }
}
