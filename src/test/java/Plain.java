import java.util.ArrayList;
import java.util.List;
import java.util.regex.Matcher;
import java.util.regex.Pattern;

/**
 * The document a second time, in its plainest words and by other means than the program: kinds are subclasses,
 * every question goes through all that it could mean, faults are found by a pattern of what cities look like.
 */
final class Plain {
    private static final int NONE = -1, BAD = -2, STATE = -3, FULL = -4, UNMET = -5, NO_NUMBER = -10001;
    private static final int NOTHING = -11, CAST = -12, PLACE = -13, SIZE = -14;
    private static final long NO = Long.MIN_VALUE;

    private static class Body implements Cloneable {
        int number, kind, v, cover, dents, hurt;
        int[] row = new int[4];
        List<Integer> trace;

        int guard(int sum, int saying) {
            return sum;
        }

        int nods(int x) {
            trace.add(10);
            return x + number;
        }

        int knocks(int x) {
            trace.add(11);
            return nods(x) - v;
        }

        int tells(int x) {
            trace.add(12);
            return knocks(x) * 2;
        }

        Body copy() {
            try {
                Body b = (Body) clone();
                b.row = row.clone();
                return b;
            } catch (CloneNotSupportedException e) {
                throw new AssertionError(e);
            }
        }
    }

    private static class Clerk extends Body {
        @Override
        int guard(int sum, int saying) {
            return super.guard(sum, saying) + v;
        }

        @Override
        int knocks(int x) {
            trace.add(20);
            return super.knocks(x) ^ 6;
        }
    }

    private static class Soft extends Body {
        @Override
        int guard(int sum, int saying) {
            return super.guard(sum, saying) / 2;
        }

        @Override
        int nods(int x) {
            trace.add(30);
            return super.nods(x * 3);
        }
    }

    private static class Heir extends Body {
        @Override
        int guard(int sum, int saying) {
            return super.guard(sum, saying) + (dents / 5 > 9 ? 9 : dents / 5);
        }

        @Override
        int tells(int x) {
            trace.add(40);
            return super.tells(x) + knocks(1);
        }
    }

    private static final class Banker extends Clerk {
        @Override
        int guard(int sum, int saying) {
            return super.guard(sum, saying) * (cover >= 50 ? 2 : 1);
        }

        @Override
        int nods(int x) {
            trace.add(50);
            return -super.nods(x);
        }

        @Override
        int knocks(int x) {
            trace.add(51);
            return super.knocks(x + 1);
        }
    }

    private static final class Kettle extends Soft {
        @Override
        int guard(int sum, int saying) {
            return super.guard(sum, saying) + 10;
        }

        @Override
        int tells(int x) {
            trace.add(60);
            return super.tells(x - number);
        }
    }

    private static final class Told extends Heir {
        @Override
        int guard(int sum, int saying) {
            return super.guard(sum, saying) + row[saying % 4] - 4;
        }

        @Override
        int knocks(int x) {
            trace.add(70);
            return super.knocks(x) + super.nods(2);
        }

        @Override
        int nods(int x) {
            trace.add(71);
            return super.nods(x) ^ v;
        }
    }

    /** All that the image holds. */
    private static final class All {
        List<Body> wearers = new ArrayList<>();
        List<int[]> sayings = new ArrayList<>();
        int day;
        String city;
        List<int[]> seen = new ArrayList<>();
        List<int[]> sores = new ArrayList<>();
        List<int[]> plan = new ArrayList<>();
        List<int[]> book = new ArrayList<>();

        All copy() {
            All a = new All();
            for (Body b : wearers) {
                a.wearers.add(b.copy());
            }
            for (int[] s : sayings) {
                a.sayings.add(s.clone());
            }
            a.day = day;
            a.city = city;
            a.seen.addAll(seen);
            a.sores.addAll(sores);
            a.plan.addAll(plan);
            a.book.addAll(book);
            return a;
        }

        int rub() {
            int rub = 3;
            if (city != null) {
                for (String clause : city.split(";")) {
                    if (clause.startsWith("rub ")) {
                        rub = Integer.parseInt(clause.substring(4));
                    }
                }
            }
            return rub;
        }

        int guard(int wearer, int saying) {
            Body b = wearers.get(wearer);
            int sum = b.cover / 5;
            if (city != null) {
                for (String clause : city.split(";")) {
                    String[] parts = clause.split(" ");
                    if (parts.length == 3 && holds(parts[2], b, saying)) {
                        sum += (parts[0].equals("firm") ? 1 : -1) * Integer.parseInt(parts[1]);
                    }
                }
            }
            return b.guard(sum, saying);
        }

        /** Splits at the outermost | first, then at the outermost &. */
        boolean holds(String e, Body b, int saying) {
            for (char sign : new char[] {'|', '&'}) {
                int depth = 0;
                for (int i = 0; i < e.length(); i++) {
                    depth += e.charAt(i) == '(' ? 1 : e.charAt(i) == ')' ? -1 : 0;
                    if (depth == 0 && e.charAt(i) == sign) {
                        boolean left = holds(e.substring(0, i), b, saying);
                        boolean right = holds(e.substring(i + 1), b, saying);
                        return sign == '|' ? left || right : left && right;
                    }
                }
            }
            if (e.charAt(0) == '!') {
                return !holds(e.substring(1), b, saying);
            }
            if (e.charAt(0) == '(') {
                return holds(e.substring(1, e.length() - 1), b, saying);
            }
            int is = switch (e.charAt(0)) {
                case 'p' -> b.number;
                case 'k' -> b.kind;
                case 'v' -> b.v;
                case 's' -> saying;
                case 'c' -> b.cover / 10;
                default -> day % 10;
            };
            int n = Integer.parseInt(e.substring(2));
            return e.charAt(1) == '<' ? is < n : e.charAt(1) == '=' ? is == n : is > n;
        }

        All days(int n) {
            for (int i = 0; i < n; i++) {
                for (int s = 0; s < sayings.size(); s++) {
                    int[] saying = sayings.get(s);
                    if (saying[2] >= 0 && day % saying[1] == 0) {
                        Body b = wearers.get(saying[2]);
                        int bite = Math.max(0, Math.min(99, saying[0] - guard(saying[2], s)));
                        b.hurt = Math.min(9999, b.hurt + bite);
                        b.dents = Math.min(9999, b.dents + 1);
                        b.cover = Math.max(0, b.cover - rub());
                    }
                }
                day++;
            }
            return this;
        }

        int hurt() {
            return wearers.stream().mapToInt(b -> b.hurt).sum();
        }

        int cover() {
            return wearers.stream().mapToInt(b -> b.cover).sum();
        }
    }

    private All now = new All();
    private All image;
    private final StringBuilder text = new StringBuilder();
    private int cities;
    private List<Integer> trace = new ArrayList<>();
    private final long[][] tapes = new long[6][];
    private final int[] sorts = {-1, -1, -1, -1, -1, -1};

    /** What a city looks like: an E without regard to how & and | bind, as often nested as may be. */
    private static final Pattern CITY = Pattern.compile(cityPattern());

    private static String cityPattern() {
        String number = "[0-9][0-9]?";
        String factor = "[pkvscd][<=>]" + number;
        String test = factor;
        for (int depth = 3; depth >= 0; depth--) {
            String e = "(?:" + factor + ")(?:[&|](?:" + factor + "))*";
            factor = "!(?:" + factor + ")|\\(" + e + "\\)|" + test;
        }
        String e = "(?:" + factor + ")(?:[&|](?:" + factor + "))*";
        String clause = "(?:rub " + number + "|(?:firm|weak) " + number + " " + e + ")";
        return clause + "(?:;" + clause + "){0,9}";
    }

    private static boolean begins(String start) {
        Matcher m = CITY.matcher(start);
        return m.matches() || m.hitEnd();
    }

    /** -1 if the text is a city. */
    private static int fault(String text) {
        if (CITY.matcher(text).matches()) {
            return -1;
        }
        for (int i = 0; i < text.length(); i++) {
            if (!begins(text.substring(0, i + 1))) {
                return i;
            }
        }
        return text.length();
    }

    private boolean hasWearer(int p) {
        return p >= 0 && p < now.wearers.size();
    }

    private boolean hasSaying(int s) {
        return s >= 0 && s < now.sayings.size();
    }

    private static boolean in(int x, int least, int most) {
        return x >= least && x <= most;
    }

    int wearer(int kind, int v, int cover) {
        if (!in(kind, 0, 6)) {
            return NONE;
        }
        if (!in(v, 0, 9) || !in(cover, 0, 99)) {
            return BAD;
        }
        if (now.wearers.size() == 6) {
            return FULL;
        }
        Body b = switch (kind) {
            case 0 -> new Body();
            case 1 -> new Clerk();
            case 2 -> new Soft();
            case 3 -> new Heir();
            case 4 -> new Banker();
            case 5 -> new Kettle();
            default -> new Told();
        };
        b.number = now.wearers.size();
        b.kind = kind;
        b.v = v;
        b.cover = cover;
        now.wearers.add(b);
        return b.number;
    }

    int of(int wearer, int what) {
        if (!hasWearer(wearer)) {
            return NO_NUMBER;
        }
        Body b = now.wearers.get(wearer);
        switch (what) {
            case 0:
                return b.kind;
            case 1:
                return b.v;
            case 2:
                return b.cover;
            case 3:
                return b.dents;
            case 4:
                return b.hurt;
            case 5:
                for (int n = 0; n <= 60; n++) {
                    if (now.copy().days(n).wearers.get(wearer).hurt > b.hurt) {
                        return n;
                    }
                }
                return UNMET;
            case 6:
                return covers(wearer).size();
            case 7:
                return covers(wearer).isEmpty() ? UNMET : covers(wearer).get(0);
            default:
                return what >= 10 && hasSaying(what - 10) ? now.guard(wearer, what - 10) : NO_NUMBER;
        }
    }

    private List<Integer> covers(int wearer) {
        List<Integer> fit = new ArrayList<>();
        for (int c = 0; c <= 99; c++) {
            All a = now.copy();
            a.wearers.get(wearer).cover = c;
            boolean isSo = true;
            for (int[] row : now.seen) {
                isSo &= a.copy().days(row[1]).wearers.get(row[0]).cover == row[2];
            }
            if (isSo) {
                fit.add(c);
            }
        }
        return fit;
    }

    int saying(int hard, int every) {
        if (!in(hard, 0, 60) || !in(every, 1, 9)) {
            return BAD;
        }
        if (now.sayings.size() == 8) {
            return FULL;
        }
        now.sayings.add(new int[] {hard, every, UNMET});
        return now.sayings.size() - 1;
    }

    int phrase(int saying, int what) {
        return hasSaying(saying) && in(what, 0, 2) ? now.sayings.get(saying)[what] : NONE;
    }

    int aim(int saying, int wearer) {
        if (!hasSaying(saying) || wearer != -1 && !hasWearer(wearer)) {
            return NONE;
        }
        int was = now.sayings.get(saying)[2];
        now.sayings.get(saying)[2] = wearer == -1 ? UNMET : wearer;
        return was;
    }

    int mend(int wearer, int n) {
        if (!hasWearer(wearer)) {
            return NONE;
        }
        if (!in(n, 0, 99)) {
            return BAD;
        }
        int was = now.wearers.get(wearer).cover;
        now.wearers.get(wearer).cover = n;
        return was;
    }

    int row(int wearer, int part, int n) {
        if (!hasWearer(wearer) || !in(part, 0, 3)) {
            return NONE;
        }
        if (!in(n, 0, 9)) {
            return BAD;
        }
        if (now.wearers.get(wearer).kind != 6) {
            return STATE;
        }
        int was = now.wearers.get(wearer).row[part];
        now.wearers.get(wearer).row[part] = n;
        return was;
    }

    int feed(int sign) {
        if (!in(sign, 0, 127)) {
            return BAD;
        }
        if (text.length() == 100) {
            return FULL;
        }
        text.append((char) sign);
        return text.length();
    }

    int city() {
        if (cities == 6) {
            return FULL;
        }
        String read = text.toString();
        text.setLength(0);
        int fault = fault(read);
        if (fault >= 0) {
            return -10 - fault;
        }
        now.city = read;
        return cities++;
    }

    int told(int what) {
        switch (what) {
            case 0:
                return now.day;
            case 1:
                return now.rub();
            case 2:
                return now.hurt();
            case 3:
                return now.cover();
            case 4:
                int bits = 0;
                for (int s = 0; s < now.sayings.size(); s++) {
                    if (now.sayings.get(s)[2] >= 0 && now.day % now.sayings.get(s)[1] == 0) {
                        bits += 1 << s;
                    }
                }
                return bits;
            default:
                return NONE;
        }
    }

    int pass(int n) {
        if (!in(n, 0, 60)) {
            return BAD;
        }
        if (now.day + n > 9999) {
            return STATE;
        }
        return now.days(n).day;
    }

    int on(int n, int what) {
        boolean isKnown = what == 0;
        for (int p = 0; p < now.wearers.size(); p++) {
            isKnown |= what == 10 + p || what == 20 + p || what == 30 + p;
        }
        if (!isKnown) {
            return NONE;
        }
        if (!in(n, 0, 60)) {
            return BAD;
        }
        All a = now.copy().days(n);
        if (what == 0) {
            return a.hurt();
        }
        Body b = a.wearers.get(what % 10);
        return what < 20 ? b.cover : what < 30 ? b.dents : b.hurt;
    }

    int best(int n, int what) {
        if (what == 0) {
            return in(n, 1, 12) ? mendSet(n) : BAD;
        }
        if (what == 1) {
            return in(n, 1, 20) ? change(n) : BAD;
        }
        if (what < 10 || !hasSaying(what - 10)) {
            return NONE;
        }
        if (!in(n, 1, 20)) {
            return BAD;
        }
        int best = UNMET;
        int least = Integer.MAX_VALUE;
        for (int p = 0; p < now.wearers.size(); p++) {
            All a = now.copy();
            a.sayings.get(what - 10)[2] = p;
            int hurt = a.days(n).hurt();
            if (hurt < least) {
                least = hurt;
                best = p;
            }
        }
        return best;
    }

    private int mendSet(int n) {
        int best = UNMET;
        for (int set = 0; set < 1 << now.wearers.size(); set++) {
            All a = now.copy();
            for (int p = 0; p < now.wearers.size(); p++) {
                if ((set >> p & 1) == 1) {
                    a.wearers.get(p).cover = 99;
                }
            }
            boolean isFewer = best == UNMET || Integer.bitCount(set) < Integer.bitCount(best);
            if (isFewer && a.days(n).hurt() <= now.hurt()) {
                best = set;
            }
        }
        return best;
    }

    private int change(int n) {
        int best = UNMET;
        int least = now.copy().days(n).hurt();
        for (int p = 0; p < now.wearers.size(); p++) {
            for (int q = p + 1; q < now.wearers.size(); q++) {
                All a = now.copy();
                int cover = a.wearers.get(p).cover;
                a.wearers.get(p).cover = a.wearers.get(q).cover;
                a.wearers.get(q).cover = cover;
                int hurt = a.days(n).hurt();
                if (hurt < least) {
                    least = hurt;
                    best = 10 * p + q;
                }
            }
        }
        return best;
    }

    private static int add(List<int[]> rows, int most, int... row) {
        if (rows.size() == most) {
            return FULL;
        }
        rows.add(row);
        return rows.size();
    }

    int see(int wearer, int n, int cover) {
        if (wearer == -1) {
            now.seen.clear();
            return 0;
        }
        if (!hasWearer(wearer)) {
            return NONE;
        }
        return in(n, 0, 12) && in(cover, 0, 99) ? add(now.seen, 5, wearer, n, cover) : BAD;
    }

    int ache(int wearer, int n, boolean isMore) {
        if (wearer == -1) {
            now.sores.clear();
            return 0;
        }
        if (!hasWearer(wearer)) {
            return NONE;
        }
        return in(n, 0, 12) ? add(now.sores, 5, wearer, n, isMore ? 1 : 0) : BAD;
    }

    int can(int wearer, int what) {
        if (!hasWearer(wearer) || !in(what, 0, 1)) {
            return NONE;
        }
        int many = 0;
        int least = UNMET;
        for (int v = 9; v >= 0; v--) {
            All a = now.copy();
            a.wearers.get(wearer).v = v;
            boolean isSo = true;
            for (int[] row : now.sores) {
                int then = a.copy().days(row[1]).wearers.get(row[0]).hurt;
                isSo &= then > now.wearers.get(row[0]).hurt == (row[2] == 1);
            }
            if (isSo) {
                many++;
                least = v;
            }
        }
        return what == 0 ? many : least;
    }

    private static long part(int above, int below, int part) {
        int a = above;
        int b = below;
        while (b != 0) {
            int rest = a % b;
            a = b;
            b = rest;
        }
        return part == 0 ? above / a : below / a;
    }

    long odds(int saying, int wearer, int n, int part) {
        if (!hasSaying(saying) || !hasWearer(wearer) || !in(n, 0, 20) || !in(part, 0, 1)) {
            return NO;
        }
        int more = 0;
        for (int p = 0; p < now.wearers.size(); p++) {
            All a = now.copy();
            a.sayings.get(saying)[2] = p;
            if (a.days(n).wearers.get(wearer).hurt > now.wearers.get(wearer).hurt) {
                more++;
            }
        }
        return part(more, now.wearers.size(), part);
    }

    long mean(int n, int part) {
        if (now.wearers.isEmpty() || !in(n, 0, 60) || !in(part, 0, 1)) {
            return NO;
        }
        return part(now.copy().days(n).cover(), now.wearers.size(), part);
    }

    int plan(int what, int n) {
        if (what == -1) {
            now.plan.clear();
            return 0;
        }
        boolean isKnown = what == 0 || what == 2 && hasSaying(n) || (what == 1 || what == 3) && hasWearer(n);
        return isKnown ? add(now.plan, 10, what, n) : NONE;
    }

    int ends(int what) {
        if (!in(what, 0, 1)) {
            return NONE;
        }
        All a = now.copy();
        for (int[] row : now.plan) {
            switch (row[0]) {
                case 0 -> a.days(1);
                case 1 -> a.wearers.get(row[1]).cover = 99;
                case 2 -> a.sayings.get(row[1])[2] = UNMET;
                default -> a.wearers.get(row[1]).hurt = 0;
            }
        }
        return what == 0 ? a.hurt() : a.cover();
    }

    int book(int wearer, int cover) {
        if (wearer == -1) {
            now.book.clear();
            return 0;
        }
        if (!hasWearer(wearer)) {
            return NONE;
        }
        return in(cover, 0, 99) ? add(now.book, 8, wearer, cover) : BAD;
    }

    int looked() {
        for (int i = 0; i < now.book.size(); i++) {
            if (now.wearers.get(now.book.get(i)[0]).cover != now.book.get(i)[1]) {
                return i;
            }
        }
        return UNMET;
    }

    int judge(int tape, int i) {
        if (!in(tape, 0, 5)) {
            return NONE;
        }
        if (sorts[tape] > 0) {
            return CAST;
        }
        for (int p = 0; p < now.wearers.size(); p++) {
            if (sorts[tape] < 0 || i < 0 || (long) i + p >= tapes[tape].length) {
                return 100 + p;
            }
            if (tapes[tape][i + p] != now.wearers.get(p).cover) {
                return p;
            }
        }
        return UNMET;
    }

    int image() {
        image = now.copy();
        return now.wearers.size();
    }

    int undo() {
        if (image == null) {
            return STATE;
        }
        now = image.copy();
        return now.wearers.size();
    }

    int act(int wearer, int act, int x) {
        trace = new ArrayList<>();
        if (!hasWearer(wearer) || !in(act, 0, 2)) {
            return 0;
        }
        Body b = now.wearers.get(wearer);
        b.trace = trace;
        return act == 0 ? b.nods(x) : act == 1 ? b.knocks(x) : b.tells(x);
    }

    int trace(int i) {
        return i >= 0 && i < trace.size() && i < 20 ? trace.get(i) : NONE;
    }

    int taken(int wearer, int k) {
        if (!in(k, 0, 6)) {
            return BAD;
        }
        if (!hasWearer(wearer)) {
            return NOTHING;
        }
        Class<?>[] kinds =
            {Body.class, Clerk.class, Soft.class, Heir.class, Banker.class, Kettle.class, Told.class};
        Body b = now.wearers.get(wearer);
        return kinds[k].isInstance(b) ? b.kind : CAST;
    }

    int count(int what) {
        int[] counts = {now.wearers.size(), now.sayings.size(), cities, now.seen.size(), now.sores.size(),
            now.plan.size(), now.book.size(), text.length(), trace.size()};
        return in(what, 0, 8) ? counts[what] : BAD;
    }

    int tape(int tape, int sort, int n) {
        if (!in(tape, 0, 5)) {
            return NONE;
        }
        if (!in(sort, -1, 4) || sort >= 0 && n > 60) {
            return BAD;
        }
        if (sort >= 0 && n < 0) {
            return SIZE;
        }
        sorts[tape] = sort;
        tapes[tape] = sort < 0 ? null : new long[n];
        return 1;
    }

    int item(int tape, int i, long v) {
        if (!in(tape, 0, 5)) {
            return NONE;
        }
        if (tapes[tape] == null) {
            return NOTHING;
        }
        if (!in(i, 0, tapes[tape].length - 1)) {
            return PLACE;
        }
        int spare = sorts[tape] == 0 ? 56 : sorts[tape] == 1 ? 48 : sorts[tape] == 2 ? 32 : 0;
        tapes[tape][i] = sorts[tape] == 4 ? (v == 0 ? 0 : 1) : v << spare >> spare;
        return 1;
    }

    long read(int tape, int i) {
        boolean isThere = in(tape, 0, 5) && tapes[tape] != null && in(i, 0, tapes[tape].length - 1);
        return isThere ? tapes[tape][i] : NO;
    }

    int shift(int tape, int i, int other, int j, int n) {
        if (!in(tape, 0, 5) || !in(other, 0, 5)) {
            return NONE;
        }
        if (tapes[tape] == null || tapes[other] == null) {
            return NOTHING;
        }
        if (sorts[tape] != sorts[other]) {
            return CAST;
        }
        if (n < 0 || i < 0 || j < 0 || (long) i + n > tapes[tape].length || (long) j + n > tapes[other].length) {
            return PLACE;
        }
        long[] before = tapes[tape].clone();
        for (int k = 0; k < n; k++) {
            tapes[other][j + k] = before[i + k];
        }
        return n;
    }
}
