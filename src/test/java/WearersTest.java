/** Promises 1 to 11: a new object, wearers, sayings, the text, cities. */
public final class WearersTest {
    public static void main(String[] args) {
        newObject();
        wearer();
        ofNumbers();
        ofGuards();
        ofSore();
        ofCovers();
        saying();
        aim();
        mend();
        row();
        feed();
        faults();
        cities();
        clauses();
        coverByTen();
        told();
        Due.end();
    }

    private static void newObject() {
        BowlerDents x = new BowlerDents();
        for (int what = 0; what <= 8; what++) {
            Due.due(1, "count(" + what + ")", x.count(what), 0);
        }
        Due.due(1, "of(0, 0)", x.of(0, 0), Due.NO_NUMBER);
        Due.due(1, "phrase(0, 0)", x.phrase(0, 0), -1);
        Due.due(1, "told(0)", x.told(0), 0);
        Due.due(1, "told(1)", x.told(1), 3);
        Due.due(1, "told(2)", x.told(2), 0);
        Due.due(1, "told(3)", x.told(3), 0);
        Due.due(1, "told(4)", x.told(4), 0);
        Due.due(1, "undo()", x.undo(), -3);
        Due.due(1, "trace(0)", x.trace(0), -1);
        Due.due(1, "read(0, 0)", x.read(0, 0), Due.NO);
        Due.due(1, "mean(0, 0)", x.mean(0, 0), Due.NO);
        Due.due(1, "looked()", x.looked(), Due.UNMET);
    }

    private static void wearer() {
        BowlerDents x = new BowlerDents();
        Due.due(2, "kind -1", x.wearer(-1, 10, 100), -1);
        Due.due(2, "kind 7", x.wearer(7, 0, 0), -1);
        Due.due(2, "v -1", x.wearer(0, -1, 0), -2);
        Due.due(2, "v 10", x.wearer(0, 10, 0), -2);
        Due.due(2, "cover -1", x.wearer(0, 0, -1), -2);
        Due.due(2, "cover 100", x.wearer(0, 0, 100), -2);
        Due.due(2, "none came", x.count(0), 0);
        for (int kind = 1; kind <= 6; kind++) {
            Due.due(2, "kind " + kind, x.wearer(kind, 9, 99), kind - 1);
            Due.due(2, "its kind", x.of(kind - 1, 0), kind);
        }
        Due.due(2, "FULL", x.wearer(0, 0, 0), -4);
        Due.due(2, "NONE before FULL", x.wearer(7, 0, 0), -1);
        Due.due(2, "BAD before FULL", x.wearer(0, 0, 100), -2);
        Due.due(2, "six", x.count(0), 6);
        Due.due(2, "kind 0", new BowlerDents().wearer(0, 0, 0), 0);
    }

    private static void ofNumbers() {
        BowlerDents x = Due.with(0, 6, 40, 6, 9, 99);
        Due.city(x, "rub 7");
        Due.saying(x, 60, 1, 1);
        x.pass(2);
        int[] want = {6, 9, 85, 2, 37 + 38};
        // bites: 60 - (99/5 + 0 - 4), 60 - (92/5 - 4)
        want[4] = (60 - 15) + (60 - 14);
        for (int what = 0; what < want.length; what++) {
            Due.due(3, "of(1, " + what + ")", x.of(1, what), want[what]);
        }
        Due.due(3, "other v", x.of(0, 1), 6);
        Due.due(3, "other cover", x.of(0, 2), 40);
        Due.due(3, "other hurt", x.of(0, 4), 0);
        Due.due(3, "of(2, 0)", x.of(2, 0), Due.NO_NUMBER);
        Due.due(3, "of(-1, 0)", x.of(-1, 0), Due.NO_NUMBER);
        Due.due(3, "of(0, -1)", x.of(0, -1), Due.NO_NUMBER);
        Due.due(3, "of(0, 8)", x.of(0, 8), Due.NO_NUMBER);
        Due.due(3, "of(0, 9)", x.of(0, 9), Due.NO_NUMBER);
        Due.due(3, "no such saying", x.of(0, 11), Due.NO_NUMBER);
        Due.due(3, "far below", x.of(0, Integer.MIN_VALUE), Due.NO_NUMBER);
    }

    private static void ofGuards() {
        BowlerDents x = Due.with(0, 4, 53, 1, 4, 53, 2, 4, 53, 3, 4, 53, 4, 4, 50, 5, 4, 53);
        x.saying(0, 1);
        int[] plain = {10, 14, 5, 10, 28, 15};
        for (int p = 0; p < plain.length; p++) {
            Due.due(3, "guard of kind " + p, x.of(p, 10), plain[p]);
        }
        x.mend(4, 49);
        Due.due(3, "banker below 50", x.of(4, 10), 13);
        Due.city(x, "weak 25 p<9");
        int[] weak = {-15, -11, -7, -15, -12, 3};
        for (int p = 0; p < weak.length; p++) {
            Due.due(3, "weak guard of kind " + p, x.of(p, 10), weak[p]);
        }
        x.mend(4, 50);
        Due.due(3, "banker twice below 0", x.of(4, 10), -22);

        BowlerDents heirs = Due.with(3, 0, 0, 6, 0, 0);
        Due.saying(heirs, 0, 1, 0);
        Due.saying(heirs, 0, 1, 1);
        heirs.pass(4);
        Due.due(3, "4 dents", heirs.of(0, 10), 0);
        heirs.pass(1);
        Due.due(3, "5 dents", heirs.of(0, 10), 1);
        Due.due(3, "5 dents, told", heirs.of(1, 10), -3);
        heirs.pass(40);
        Due.due(3, "45 dents", heirs.of(0, 10), 9);
        heirs.pass(60);
        Due.due(3, "9 at most", heirs.of(0, 10), 9);
        Due.due(3, "9 at most, told", heirs.of(1, 10), 5);
    }

    private static void ofSore() {
        BowlerDents x = Due.with(0, 0, 98, 0, 0, 99, 0, 0, 0);
        Due.city(x, "rub 1");
        Due.saying(x, 8, 1, 0);
        Due.saying(x, 8, 1, 1);
        // cover 98 less 59 is 39, which keeps off 7 alone at the 60th strike
        Due.due(3, "sore on the last day", x.of(0, 5), 60);
        Due.due(3, "sore a day too late", x.of(1, 5), Due.UNMET);
        Due.due(3, "never struck", x.of(2, 5), Due.UNMET);
        int seldom = Due.saying(x, 1, 9, 2);
        Due.due(3, "sore at once", x.of(2, 5), 1);
        x.pass(1);
        Due.due(3, "sore when it strikes again", x.of(2, 5), 9);
        Due.due(3, "nothing changed", x.told(0), 1);
        Due.due(3, "the saying stays", x.phrase(seldom, 2), 2);
    }

    private static void ofCovers() {
        BowlerDents x = Due.with(0, 0, 50, 0, 0, 20);
        Due.saying(x, 1, 1, 0);
        Due.due(3, "nothing seen", x.of(0, 6), 100);
        Due.due(3, "nothing seen: least", x.of(0, 7), 0);
        x.see(0, 1, 0);
        Due.due(3, "0 .. 3 wear to 0", x.of(0, 6), 4);
        Due.due(3, "least", x.of(0, 7), 0);
        x.see(0, 0, 2);
        Due.due(3, "its cover now", x.of(0, 6), 1);
        Due.due(3, "its cover now: least", x.of(0, 7), 2);
        x.see(1, 12, 20);
        Due.due(3, "another's row holds", x.of(0, 7), 2);
        Due.due(3, "the other: none, for row 0 is not so", x.of(1, 6), 0);
        Due.due(3, "the other: least", x.of(1, 7), Due.UNMET);
        x.see(1, 3, 21);
        Due.due(3, "another's row fails", x.of(0, 6), 0);
        Due.due(3, "another's row fails: least", x.of(0, 7), Due.UNMET);
        x.see(-1, 0, 0);
        x.pass(1);
        x.aim(0, -1);
        x.mend(0, 50);
        Due.saying(x, 1, 3, 0);
        x.see(0, 2, 10);
        Due.due(3, "not yet on day 2", x.of(0, 7), 10);
        x.see(-1, 0, 0);
        x.see(0, 3, 10);
        Due.due(3, "on day 3", x.of(0, 7), 13);
        Due.due(3, "on day 3: how many", x.of(0, 6), 1);
        x.aim(1, -1);
        x.aim(0, 0);
        x.see(-1, 0, 0);
        x.see(0, 12, 9);
        Due.due(3, "twelve days", x.of(0, 7), 45);
        Due.due(3, "nothing changed", x.of(0, 2), 50);
    }

    private static void saying() {
        BowlerDents x = new BowlerDents();
        Due.due(4, "hard -1", x.saying(-1, 1), -2);
        Due.due(4, "hard 61", x.saying(61, 1), -2);
        Due.due(4, "every 0", x.saying(0, 0), -2);
        Due.due(4, "every 10", x.saying(0, 10), -2);
        Due.due(4, "hard 60", x.saying(60, 9), 0);
        Due.due(4, "hard 0", x.saying(0, 1), 1);
        for (int s = 2; s < 8; s++) {
            Due.due(4, "saying " + s, x.saying(s, s), s);
        }
        Due.due(4, "FULL", x.saying(1, 1), -4);
        Due.due(4, "BAD before FULL", x.saying(61, 1), -2);
        Due.due(4, "eight", x.count(1), 8);
        Due.due(5, "hard", x.phrase(0, 0), 60);
        Due.due(5, "every", x.phrase(0, 1), 9);
        Due.due(5, "at none", x.phrase(0, 2), Due.UNMET);
        Due.due(5, "hard of the last", x.phrase(7, 0), 7);
        Due.due(5, "what 3", x.phrase(0, 3), -1);
        Due.due(5, "what -1", x.phrase(0, -1), -1);
        Due.due(5, "saying 8", x.phrase(8, 0), -1);
        Due.due(5, "saying -1", x.phrase(-1, 0), -1);
    }

    private static void aim() {
        BowlerDents x = Due.with(0, 0, 0, 0, 0, 0);
        x.saying(1, 1);
        Due.due(6, "first", x.aim(0, 1), Due.UNMET);
        Due.due(5, "at whom", x.phrase(0, 2), 1);
        Due.due(6, "again", x.aim(0, 0), 1);
        Due.due(6, "saying 1", x.aim(1, 0), -1);
        Due.due(6, "saying -1", x.aim(-1, 0), -1);
        Due.due(6, "wearer 2", x.aim(0, 2), -1);
        Due.due(6, "wearer -2", x.aim(0, -2), -1);
        Due.due(6, "nothing changed", x.phrase(0, 2), 0);
        Due.due(6, "at none", x.aim(0, -1), 0);
        Due.due(6, "it was at none", x.aim(0, -1), Due.UNMET);
        x.pass(1);
        Due.due(6, "none is struck", x.of(0, 3) + x.of(1, 3), 0);
    }

    private static void mend() {
        BowlerDents x = Due.with(0, 0, 12);
        Due.due(7, "99", x.mend(0, 99), 12);
        Due.due(7, "0", x.mend(0, 0), 99);
        Due.due(7, "100", x.mend(0, 100), -2);
        Due.due(7, "-1", x.mend(0, -1), -2);
        Due.due(7, "wearer 1", x.mend(1, 100), -1);
        Due.due(7, "wearer -1", x.mend(-1, 5), -1);
        Due.due(7, "nothing changed", x.of(0, 2), 0);
    }

    private static void row() {
        BowlerDents x = Due.with(6, 0, 0, 3, 0, 0);
        for (int s = 0; s < 6; s++) {
            x.saying(1, 1);
        }
        Due.due(8, "part 1", x.row(0, 1, 9), 0);
        Due.due(8, "part 1 again", x.row(0, 1, 7), 9);
        Due.due(8, "part 3", x.row(0, 3, 2), 0);
        Due.due(8, "guard against 0", x.of(0, 10), -4);
        Due.due(8, "guard against 1", x.of(0, 11), 3);
        Due.due(8, "guard against 3", x.of(0, 13), -2);
        Due.due(8, "guard against 5", x.of(0, 15), 3);
        Due.due(8, "part 4", x.row(0, 4, 1), -1);
        Due.due(8, "part -1", x.row(0, -1, 10), -1);
        Due.due(8, "wearer 2", x.row(2, 0, 10), -1);
        Due.due(8, "n 10", x.row(0, 0, 10), -2);
        Due.due(8, "n -1", x.row(1, 0, -1), -2);
        Due.due(8, "an heir has none", x.row(1, 0, 1), -3);
        Due.due(8, "nothing changed", x.row(0, 0, 0), 0);
    }

    private static void feed() {
        BowlerDents x = new BowlerDents();
        Due.due(9, "-1", x.feed(-1), -2);
        Due.due(9, "128", x.feed(128), -2);
        Due.due(9, "0", x.feed(0), 1);
        Due.due(9, "127", x.feed(127), 2);
        for (int i = 3; i <= 100; i++) {
            Due.due(9, "sign " + i, x.feed('a'), i);
        }
        Due.due(9, "FULL", x.feed('a'), -4);
        Due.due(9, "BAD before FULL", x.feed(128), -2);
        Due.due(9, "100 stand", x.count(7), 100);
    }

    private static void fault(String text, int place) {
        BowlerDents x = new BowlerDents();
        Due.due(10, "city() of " + text, Due.city(x, text), -10 - place);
        Due.due(10, "the text is empty then", x.count(7), 0);
        Due.due(10, "no city came", x.count(2), 0);
    }

    /** Signs of a longer text that was before stand no more. */
    private static void staleSigns(String before, String text) {
        BowlerDents x = new BowlerDents();
        Due.city(x, before);
        Due.due(10, "city() of " + text + " after " + before, Due.city(x, text), 0);
        Due.due(11, "rub of " + text, x.told(1), text.startsWith("rub") ? 1 : 3);
    }

    private static void good(String text) {
        Due.due(10, "city() of " + text, Due.city(new BowlerDents(), text), 0);
    }

    private static void faults() {
        fault("", 0);
        fault("f", 1);
        fault("x", 0);
        fault("fire 1 p=1", 3);
        fault("weal 1 p=1", 3);
        fault("rux 1", 2);
        fault("rub", 3);
        fault("rub ", 4);
        fault("rub  1", 4);
        fault("rub x", 4);
        fault("rub 123", 6);
        fault("rub 1 ", 5);
        fault("rub 1;", 6);
        fault("rub 1;;", 6);
        fault("rub 1 p=1", 5);
        fault("firm 1", 6);
        fault("firm 1 ", 7);
        fault("firm p=1", 5);
        fault("firm 123 p=1", 7);
        fault("firm 1  p=1", 7);
        fault("firm 1 q=1", 7);
        fault("firm 1 p", 8);
        fault("firm 1 p!1", 8);
        fault("firm 1 p=", 9);
        fault("firm 1 p=x", 9);
        fault("firm 1 p=123", 11);
        fault("firm 1 p=1&", 11);
        fault("firm 1 p=1|", 11);
        fault("firm 1 p=1||p=1", 11);
        fault("firm 1 p=1)", 10);
        fault("firm 1 (p=1", 11);
        fault("firm 1 (p=1;", 11);
        fault("firm 1 ()", 8);
        fault("firm 1 !", 8);
        fault("firm 1 p=1!", 10);
        fault("firm 1 (((((p=1)))))", 11);
        fault("firm 1 !!!!!p=1", 11);
        fault("firm 1 !(!(!p=1))", 11);
        fault("firm 1 (p=1)|((!(!(p=1))))", 17);
        fault("fir 1 p=1", 3);
        fault("fi k=1", 2);
        fault("fi1 p=1", 2);
        fault("ru1", 2);
        fault("firm  p=1", 5);
        fault("firm 1 <1", 7);
        fault("firm 1 5", 7);
        fault("firm 1 p5", 8);
        fault("FIRM 1 p=1", 0);
        fault(" rub 1", 0);
        fault("rub -1", 4);
        fault("rub 1;rub 1;rub 1;rub 1;rub 1;rub 1;rub 1;rub 1;rub 1;rub 1;rub 1", 59);
        fault("rub 1;rub 1;rub 1;rub 1;rub 1;rub 1;rub 1;rub 1;rub 1;rub 1x", 59);
        String long97 = "firm 1 p=1" + "|p=1".repeat(21) + "|!p";
        fault(long97, 97);
        fault(long97 + "=", 98);
        good(long97 + "=1");
        good(long97 + "=12");
        fault(long97 + "=1&", 100);
        fault(long97 + "=1;", 100);
        staleSigns("rub 15x", "rub 1");
        staleSigns("firm 1 p=1&k=1&&", "firm 1 p=1");
        staleSigns("firm 1 p=1|k=1||", "firm 1 p=1");
        staleSigns("firm 1 p=1;rub 2;;", "firm 1 p=1");
        good("rub 1;rub 1;rub 1;rub 1;rub 1;rub 1;rub 1;rub 1;rub 1;rub 1");
        good("firm 1 ((((p=1))))|!!!!p=1&(!p>0)");
        good("weak 07 (p=1|k<2)&!(v>99&s=0);rub 00;firm 99 c=5|d=9");
    }

    private static void cities() {
        BowlerDents x = Due.with(0, 0, 50);
        x.saying(0, 1);
        for (int i = 0; i < 5; i++) {
            Due.due(10, "city " + i, Due.city(x, "rub " + (10 + i) + ";firm " + i + " p=0"), i);
            Due.due(10, "it holds", x.told(1), 10 + i);
            Due.due(10, "it makes firm", x.of(0, 10), 10 + i);
        }
        Due.due(10, "a fault", Due.city(x, "rub 99;firm 50 p=0;"), -10 - 19);
        Due.due(10, "the one that held holds", x.told(1), 14);
        Due.due(10, "the one that held holds", x.of(0, 10), 14);
        Due.due(10, "five", x.count(2), 5);
        Due.due(10, "city 5, without rub", Due.city(x, "firm 1 p=0"), 5);
        Due.due(11, "rub without one", x.told(1), 3);
        Due.due(10, "nothing is left of the fault", x.of(0, 10), 11);
        Due.feed(x, "oops");
        Due.due(10, "FULL", x.city(), -4);
        Due.due(10, "the text stays", x.count(7), 4);
        Due.due(10, "still", x.told(1), 3);
    }

    /** The guard of wearer 1 (kind 1, v 7, cover 53) against saying 2 on day 13, where it is 17 without a city. */
    private static void clause(String text, int guard) {
        BowlerDents x = Due.with(0, 0, 0, 1, 7, 53);
        for (int s = 0; s < 3; s++) {
            x.saying(0, 1);
        }
        x.pass(13);
        Due.city(x, text);
        Due.due(10, "guard by " + text, x.of(1, 12), guard);
    }

    private static void clauses() {
        clause("rub 9", 17);
        clause("firm 20 p=1", 37);
        clause("firm 20 p<1", 17);
        clause("firm 20 p>0", 37);
        clause("firm 20 p>1", 17);
        clause("weak 30 k=1", -13);
        clause("weak 30 k=0", 17);
        clause("firm 20 v=7", 37);
        clause("firm 20 v=07", 37);
        clause("firm 20 s=2", 37);
        clause("firm 20 s=12", 17);
        clause("firm 20 c=5", 37);
        clause("firm 20 c=53", 17);
        clause("firm 20 d=3", 37);
        clause("firm 20 d=13", 17);
        clause("firm 20 d>2", 37);
        clause("firm 20 d>3", 17);
        clause("firm 20 k<2", 37);
        clause("firm 20 k>1", 17);
        clause("firm 20 v<8", 37);
        clause("firm 20 v>6", 37);
        clause("firm 20 s<3", 37);
        clause("firm 20 s>1", 37);
        clause("firm 20 c<6", 37);
        clause("firm 20 c>4", 37);
        clause("firm 20 d<4", 37);
        clause("firm 20 p=1&(k=1&v=7)", 37);
        clause("firm 20 p=9|(k=9|v=7)", 37);
        clause("firm 20 p=1&(k=9|v=7)", 37);
        clause("firm 20 !p=1", 17);
        clause("firm 20 !p=2", 37);
        clause("firm 20 p=1|k=9&v=9", 37);
        clause("firm 20 p=9&k=9|v=7", 37);
        clause("firm 20 (p=1|k=9)&v=9", 17);
        clause("firm 20 !p=9&k=9", 17);
        clause("firm 20 !(p=9&k=9)", 37);
        clause("firm 20 p=1&k=1&v=7", 37);
        clause("firm 20 p=9|k=9|v=7", 37);
        clause("firm 20 !(p=1|k=9)|!(v=9|!(s=2))", 37);
        clause("firm 20 p=1;weak 5 k=1;firm 2 v=9;firm 1 s=2", 33);
    }

    private static void coverByTen() {
        BowlerDents x = Due.with(0, 0, 99, 0, 0, 59, 0, 0, 60);
        x.saying(0, 1);
        Due.city(x, "firm 20 c=9;firm 30 c=5");
        Due.due(10, "cover 99", x.of(0, 10), 39);
        Due.due(10, "cover 59", x.of(1, 10), 41);
        Due.due(10, "cover 60", x.of(2, 10), 12);
    }

    private static void told() {
        BowlerDents x = Due.with(0, 0, 30, 0, 0, 41);
        Due.saying(x, 60, 2, 0);
        Due.saying(x, 60, 3, 1);
        Due.saying(x, 60, 1, -1);
        Due.due(11, "all strike on day 0 that are at one", x.told(4), 3);
        x.pass(1);
        Due.due(11, "day", x.told(0), 1);
        Due.due(11, "hurt of all", x.told(2), 60 - 6 + 60 - 8);
        Due.due(11, "cover of all", x.told(3), 27 + 38);
        Due.due(11, "none strikes on day 1", x.told(4), 0);
        x.pass(1);
        Due.due(11, "day 2", x.told(4), 1);
        x.pass(1);
        Due.due(11, "day 3", x.told(4), 2);
        Due.due(11, "what 5", x.told(5), -1);
        Due.due(11, "what -1", x.told(-1), -1);
        Due.city(x, "rub 8;rub 2");
        Due.due(11, "the last rub", x.told(1), 2);
    }
}
