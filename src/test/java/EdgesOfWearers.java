/** Terms 1: the edges of wearers, sayings, cities, guards and days. */
final class EdgesOfWearers {
    private static final int T = Edge.TERMS;

    private EdgesOfWearers() {
    }

    static void run() {
        wearers();
        kinds();
        numbersOfWearers();
        dents();
        hurt();
        sayings();
        theText();
        clauses();
        blanks();
        digits();
        either();
        both();
        factors();
        letters();
        within();
        theFault();
        everyPrefix();
        newestCity();
        rub();
        sum();
        guards();
        guardsOfHeirs();
        bite();
        everyDay();
        strikes();
    }

    private static void wearers() {
        Edge.of(T, "WEARERS 0 .. 5, as they come, are of");
        Run r = new Run().is("of(0, 0)", Edge.NO_NUMBER).is("count(0)", 0);
        for (int p = 0; p <= 5; p++) {
            r.is("wearer(" + p + ", " + p + ", 9" + p + ")", p);
            r.is("of(" + p + ", 0)", p).is("of(" + p + ", 1)", p).is("of(" + p + ", 2)", 90 + p);
            r.is("of(" + (p + 1) + ", 0)", Edge.NO_NUMBER).is("count(0)", p + 1);
        }
        r.is("wearer(6, 9, 99)", Edge.FULL).is("of(6, 0)", Edge.NO_NUMBER).is("of(5, 0)", 5);
        r.is("of(-1, 0)", Edge.NO_NUMBER).is("of(MIN, 0)", Edge.NO_NUMBER).is("of(MAX, 0)", Edge.NO_NUMBER);
    }

    private static void kinds() {
        Edge.of(T, "KINDS: 0 WEARER; 1 CLERK, 2 SOFT, 3 HEIR under WEARER; 4 BANKER under CLERK; 5 KETTLE under SOFT; "
            + "6 TOLD under HEIR");
        int[] above = {-1, 0, 0, 0, 1, 2, 3};
        for (int kind = 0; kind <= 6; kind++) {
            Run r = new Run().is("wearer(" + kind + ", 0, 0)", 0).is("of(0, 0)", kind);
            for (int k = 0; k <= 6; k++) {
                boolean isSo = k == kind || k == above[kind] || k == 0;
                r.is("taken(0, " + k + ")", isSo ? kind : Edge.CAST);
            }
        }
        new Run().is("wearer(-1, 0, 0)", Edge.NONE).is("wearer(7, 0, 0)", Edge.NONE).is("count(0)", 0);
    }

    private static void numbersOfWearers() {
        Edge.of(T, "; with a number v (0 .. 9)");
        Run r = new Run().is("wearer(0, 0, 50)", 0).is("of(0, 1)", 0).is("wearer(0, 9, 50)", 1).is("of(1, 1)", 9);
        r.is("wearer(0, -1, 50)", Edge.BAD).is("wearer(0, 10, 50)", Edge.BAD).is("count(0)", 2);
        Edge.of(T, ", a COVER (0 .. 99)");
        r = new Run().is("wearer(0, 5, 0)", 0).is("of(0, 2)", 0).is("wearer(0, 5, 99)", 1).is("of(1, 2)", 99);
        r.is("wearer(0, 5, -1)", Edge.BAD).is("wearer(0, 5, 100)", Edge.BAD).is("count(0)", 2);
        r.is("mend(0, 100)", Edge.BAD).is("mend(0, -1)", Edge.BAD).is("of(0, 2)", 0);
        r.is("mend(0, 99)", 0).is("mend(0, 0)", 99).is("of(0, 2)", 0);
    }

    /** A wearer who is struck eight times a day, and never hurt. */
    private static Run dentedEightADay() {
        Run r = new Run().does("wearer(0, 0, 0)");
        for (int s = 0; s < 8; s++) {
            r.does("saying(0, 1)", "aim(" + s + ", 0)");
        }
        return r;
    }

    private static void dents() {
        Edge.of(T, ", DENTS (0 .. 9999; 0 at first)");
        Run r = dentedEightADay().is("of(0, 3)", 0).days(1249).is("of(0, 3)", 9992).is("on(1, 20)", 9999);
        for (int s = 1; s < 8; s++) {
            r.does("aim(" + s + ", -1)");
        }
        r.days(6).is("of(0, 3)", 9998).days(1).is("of(0, 3)", 9999).days(1).is("of(0, 3)", 9999);
        Edge.of(T, "DENTS are 1 more (9999 at most)");
        r = dentedEightADay().days(1).is("of(0, 3)", 8).days(1249).is("of(0, 3)", 9999).is("on(60, 20)", 9999);
        r.is("of(0, 4)", 0).days(1).is("of(0, 3)", 9999);
    }

    private static void hurt() {
        Edge.of(T, ", HURT (0 .. 9999; 0 at first). ");
        // 99 times 101 is 9999
        Run r = new Run().does("wearer(0, 0, 0)", "saying(60, 1)", "aim(0, 0)").city("weak 39 p=0");
        r.is("of(0, 4)", 0).is("told(2)", 0).days(100).is("of(0, 4)", 9900).is("of(0, 5)", 1);
        r.days(1).is("of(0, 4)", 9999).is("of(0, 5)", Edge.UNMET).days(1).is("of(0, 4)", 9999).is("told(2)", 9999);
        Edge.of(T, "HURT is its BITE more (9999 at most)");
        // 60 times 166 is 9960
        r = new Run().does("wearer(0, 0, 0)", "saying(60, 1)", "aim(0, 0)").days(1).is("of(0, 4)", 60);
        r.days(165).is("of(0, 4)", 9960).is("on(1, 30)", 9999).days(1).is("of(0, 4)", 9999).is("on(60, 0)", 9999);
        r.is("of(0, 3)", 167).days(1).is("of(0, 3)", 168).is("of(0, 4)", 9999);
    }

    private static void sayings() {
        Edge.of(T, "SAYINGS 0 .. 7, as they come");
        Run r = new Run().is("phrase(0, 0)", Edge.NONE);
        for (int s = 0; s <= 7; s++) {
            r.is("saying(" + (s + 20) + ", " + (s + 1) + ")", s).is("phrase(" + s + ", 0)", s + 20);
            r.is("phrase(" + s + ", 1)", s + 1).is("phrase(" + (s + 1) + ", 0)", Edge.NONE);
        }
        r.is("saying(0, 1)", Edge.FULL).is("phrase(8, 0)", Edge.NONE).is("phrase(-1, 0)", Edge.NONE);
        r.is("count(1)", 8);
        Edge.of(T, ", each with a number how HARD it is (0 .. 60)");
        r = new Run().is("saying(0, 5)", 0).is("phrase(0, 0)", 0).is("saying(60, 5)", 1).is("phrase(1, 0)", 60);
        r.is("saying(-1, 5)", Edge.BAD).is("saying(61, 5)", Edge.BAD).is("count(1)", 2);
        Edge.of(T, ", every how many DAYS it goes (EVERY; 1 .. 9)");
        r = new Run().is("saying(5, 1)", 0).is("phrase(0, 1)", 1).is("saying(5, 9)", 1).is("phrase(1, 1)", 9);
        r.is("saying(5, 0)", Edge.BAD).is("saying(5, 10)", Edge.BAD).is("saying(5, -1)", Edge.BAD).is("count(1)", 2);
        Edge.of(T, ", a WEARER at whom, or none (none at first). ");
        r = new Run().does("wearer(0, 0, 0)", "saying(60, 1)").is("phrase(0, 2)", Edge.UNMET).is("on(60, 20)", 0);
        r.is("aim(0, 0)", Edge.UNMET).is("phrase(0, 2)", 0).is("on(60, 20)", 60);
        r.is("aim(0, -1)", 0).is("phrase(0, 2)", Edge.UNMET).is("on(60, 20)", 0);
        Edge.of(T, "DAY: 0 at first.");
        new Run().is("told(0)", 0).is("pass(0)", 0);
    }

    private static void theText() {
        Edge.of(T, "A CITY is read from THE TEXT (bytes, 100 at most)");
        String most = "firm 01 p=01" + "|p=1".repeat(22);
        Run r = new Run().text(most).is("count(7)", 100).is("feed(124)", Edge.FULL).is("count(7)", 100);
        r.is("city()", 0).is("count(7)", 0).is("feed(0)", 1).is("feed(127)", 2).is("city()", -10);
        r.is("feed(-1)", Edge.BAD).is("feed(128)", Edge.BAD).is("count(7)", 0);
        r.text("rub 7").is("feed(127)", 6).is("city()", -15).text("rub 7").is("feed(0)", 6).is("city()", -15);
        r.is("count(2)", 1).city("firm 1 p=1" + "|p=1".repeat(22) + ";r", -110).city(most, 1);
    }

    private static String rubs(int n) {
        return "rub 8;".repeat(n - 1) + "rub 9";
    }

    private static void clauses() {
        Edge.of(T, ": CLAUSES, 1 to 10, with ; between: ");
        Run r = new Run().city("", -10).city(rubs(1), 0).city(rubs(2), 1).city(rubs(9), 2).city(rubs(10), 3);
        r.is("told(1)", 9).city(rubs(11), -10 - 59).city(rubs(10) + ";", -10 - 59).city(rubs(10) + ";#", -10 - 59);
        r.city(";rub 1", -10).city("rub 1;", -16).city("rub 1;;rub 1", -16).city("rub 1 rub 1", -15);
        r.city("rub 1,rub 1", -15).city("rub 1; rub 1", -16).city("rub 1 ;rub 1", -15).is("count(2)", 4);
    }

    private static void blanks() {
        Edge.of(T, "firm n E; weak n E; rub n (one blank ahead of each part behind the word; ");
        Run r = new Run().city("firm 1 p=0", 0).city("weak 1 p=0", 1).city("rub 1", 2);
        r.city("firm1 p=0", -14).city("firm  1 p=0", -15).city("firm 1p=0", -16).city("firm 1  p=0", -17);
        r.city("weak1 p=0", -14).city("weak  1 p=0", -15).city("weak 1p=0", -16).city("weak 1  p=0", -17);
        r.city("rub1", -13).city("rub  1", -14).city("rub 1 ", -15).city("rub 1 p=0", -15).city(" rub 1", -10);
        r.city("firm 1 p=0 ", -20).city("firm 1 p =0", -18).city("firm 1 p= 0", -19).city("firm 1 (p=0 )", -21);
        r.city("firm 1", -16).city("firm 1 ", -17).city("weak 1", -16).city("weak 1 ", -17).city("rub ", -14);
        r.city("Firm 1 p=0", -10).city("fiRm 1 p=0", -12).city("weaK 1 p=0", -13).city("ruB 1", -12);
        r.city("form 1 p=0", -11).city("weaf 1 p=0", -13).city("frub 1", -11);
    }

    private static void digits() {
        Edge.of(T, "n 1 or 2 digits). ");
        new Run().city("rub ", -14).city("rub x", -14).city("rub 0", 0).is("told(1)", 0).city("rub 00", 1)
            .is("told(1)", 0).city("rub 9", 2).is("told(1)", 9).city("rub 09", 3).is("told(1)", 9).city("rub 99", 4)
            .is("told(1)", 99).city("rub 100", -16).city("rub 009", -16).city("rub -1", -14).city("rub +1", -14)
            .is("told(1)", 99);
        Run r = new Run().does("wearer(0, 0, 0)", "saying(0, 1)").city("firm 0 p=0", 0).is("of(0, 10)", 0);
        r.city("firm 99 p=0", 1).is("of(0, 10)", 99).city("weak 99 p=0", 2).is("of(0, 10)", -99);
        r.city("firm 07 p=0", 3).is("of(0, 10)", 7).city("firm 100 p=0", -17).city("weak 100 p=0", -17);
        r.city("firm x p=0", -15).city("weak p=0", -15).city("firm 1/ p=0", -16).city("firm : p=0", -15);
        r.is("of(0, 10)", 7);
    }

    /** Against saying 0 on day 0, by "firm 20 " and this E, of wearer 0 (kind 0, v 0, COVER 0). */
    private static void holds(String e, boolean isSo) {
        new Run().does("wearer(0, 0, 0)", "saying(0, 1)").city("firm 20 " + e, 0).is("of(0, 10)", isSo ? 20 : 0);
    }

    private static void either() {
        Edge.of(T, "E: T or T|E. ");
        holds("p=0", true);
        holds("p=1", false);
        holds("p=1|p=1", false);
        holds("p=0|p=1", true);
        holds("p=1|p=0", true);
        holds("p=0|p=0", true);
        holds("p=1|p=1|p=1", false);
        holds("p=1|p=1|p=0", true);
        holds("p=0|p=1|p=1", true);
        new Run().city("firm 1 |p=0", -17).city("firm 1 p=0|", -21).city("firm 1 p=0||p=0", -21)
            .city("firm 1 p=0|;rub 1", -21).city("firm 1 p=0;|p=0", -21);
    }

    private static void both() {
        Edge.of(T, "T: F or F&T. ");
        holds("p=0&p=0", true);
        holds("p=0&p=1", false);
        holds("p=1&p=0", false);
        holds("p=1&p=1", false);
        holds("p=0&p=0&p=1", false);
        holds("p=1&p=0&p=0", false);
        holds("p=0&p=0&p=0", true);
        holds("p=0|p=1&p=1", true);
        holds("p=1&p=1|p=0", true);
        holds("p=1&p=0|p=1&p=0", false);
        holds("p=0|p=0&p=1", true);
        holds("p=1|p=0&p=1|p=1", false);
        new Run().city("firm 1 &p=0", -17).city("firm 1 p=0&", -21).city("firm 1 p=0&&p=0", -21)
            .city("firm 1 p=0&|p=0", -21).city("firm 1 p=0|&p=0", -21);
    }

    private static void factors() {
        Edge.of(T, "F: !F, (E), or a TEST: a letter, < or = or >, a number (1 or 2 digits)");
        holds("!p=0", false);
        holds("!p=1", true);
        holds("!!p=0", true);
        holds("!!!p=0", false);
        holds("!p=0|p=0", true);
        holds("!p=1&p=1", false);
        holds("p=1|!p=0", false);
        holds("p=1|!p=1", true);
        holds("p=0&!p=0", false);
        holds("p=0&!p=1", true);
        holds("p=1|p=1|!p=0", false);
        holds("!(p=1|p=1)", true);
        holds("!(p=1|p=0)", false);
        holds("(p=1)", false);
        holds("(p=0|p=1)&p=1", false);
        holds("p=1&(p=1|p=0)", false);
        holds("(p=0|p=1)&(p=1|p=0)", true);
        holds("p<1", true);
        holds("p<0", false);
        holds("p<00", false);
        holds("p<99", true);
        holds("p>0", false);
        holds("p=00", true);
        Run r = new Run().city("firm 1 p", -18).city("firm 1 p=", -19).city("firm 1 p=x", -19);
        r.city("firm 1 p=123", -21).city("firm 1 p==1", -19).city("firm 1 p<=1", -19).city("firm 1 p!1", -18);
        r.city("firm 1 p?1", -18).city("firm 1 p;1", -18).city("firm 1 1=p", -17).city("firm 1 =1", -17);
        r.city("firm 1 ()", -18).city("firm 1 (", -18).city("firm 1 (p=1", -21).city("firm 1 (p=1;", -21);
        r.city("firm 1 p=1)", -20).city("firm 1 !", -18).city("firm 1 !|", -18).city("firm 1 p=1!p=1", -20);
        r.city("firm 1 (p=1)(p=1)", -22).city("firm 1 p=1(p=1)", -20).city("firm 1 (p=1|)", -22);
    }

    /** For a letter that is n: = n holds, neither n - 1 nor n + 1; < and > beside it, as the document has them. */
    private static void isNumber(String build, int wearer, int saying, String letter, int n) {
        boolean[] want = {true, false, true, false, false, true, false};
        String[] tests = {"=" + n, "<" + n, "<" + (n + 1), ">" + n, "=" + (n + 1), ">" + (n - 1), "=" + (n - 1)};
        for (int i = 0; i < (n == 0 ? 5 : 7); i++) {
            Run r = new Run().does(build.split("; "));
            String guard = "of(" + wearer + ", " + (10 + saying) + ")";
            long without = r.ask(guard);
            r.city("firm 50 " + letter + tests[i], 0).is(guard, without + (want[i] ? 50 : 0));
        }
    }

    private static void letters() {
        Edge.of(T, ": of a WEARER and a SAYING p the number of the one, k its KIND, v its v, s the number of the other, "
            + "c COVER by 10 (cut), d DAY modulo 10. ");
        StringBuilder six = new StringBuilder();
        for (int p = 0; p < 6; p++) {
            six.append("wearer(0, 0, 0); ");
        }
        isNumber(six + "saying(0, 1)", 0, 0, "p", 0);
        isNumber(six + "saying(0, 1)", 5, 0, "p", 5);
        isNumber("wearer(0, 3, 0); saying(0, 1)", 0, 0, "k", 0);
        isNumber("wearer(3, 3, 0); saying(0, 1)", 0, 0, "k", 3);
        isNumber("wearer(0, 0, 0); saying(0, 1)", 0, 0, "v", 0);
        isNumber("wearer(0, 9, 0); saying(0, 1)", 0, 0, "v", 9);
        isNumber("wearer(0, 9, 0)" + "; saying(0, 1)".repeat(8), 0, 0, "s", 0);
        isNumber("wearer(0, 9, 0)" + "; saying(0, 1)".repeat(8), 0, 7, "s", 7);
        int[][] covers = {{0, 0}, {9, 0}, {10, 1}, {89, 8}, {90, 9}, {99, 9}};
        for (int[] c : covers) {
            isNumber("wearer(0, 9, " + c[0] + "); saying(0, 1)", 0, 0, "c", c[1]);
        }
        isNumber("wearer(0, 9, 0); saying(0, 1)", 0, 0, "d", 0);
        isNumber("wearer(0, 9, 0); saying(0, 1); pass(9)", 0, 0, "d", 9);
        isNumber("wearer(0, 9, 0); saying(0, 1); pass(10)", 0, 0, "d", 0);
        isNumber("wearer(0, 9, 0); saying(0, 1); pass(60); pass(60)", 0, 0, "d", 0);
        new Run().city("firm 1 q=1", -17).city("firm 1 P=1", -17).city("firm 1 h=1", -17).city("firm 1 @=1", -17);
    }

    private static void within() {
        Edge.of(T, "A ( or ! within 4 others is none. ");
        holds("((((p=0))))", true);
        holds("!!!!p=0", true);
        holds("!(!(p=0))", true);
        holds("(!(!p=1))", false);
        holds("(((!p=1)))", true);
        holds("((((p=0))))&((((p=0))))", true);
        holds("!!!!p=1|!!!!p=0", true);
        holds("!!!!p=0&!!!!p=1", false);
        holds("(((!p=1)&!p=1)&!p=1)&!p=1", true);
        holds("(p=1|(p=1|(p=1|(p=0))))", true);
        Run r = new Run().city("firm 1 (((((p=0)))))", -21).city("firm 1 !!!!!p=0", -21);
        r.city("firm 1 !(!((p=0)))", -21).city("firm 1 ((((!p=0))))", -21).city("firm 1 (((!(p=0))))", -21);
        r.city("firm 1 !!!!(p=0)", -21).city("firm 1 (((((", -21).city("firm 1 ((((", -21);
        r.city("firm 1 ((((p=0))))|(((((p=0)))))", -33).city("firm 1 p=0&!!!!!p=0", -25);
        r.city("firm 1 ((((p=0|!p=0))))", -25).city("firm 1 ((((p=0&(p=0)))))", -25);
    }

    private static void theFault() {
        Edge.of(T, "The FAULT: the place of the first byte with which none begins so (the end of THE TEXT, if it ends "
            + "too early). ");
        Run r = new Run().city("", -10).city("#", -10).city("f", -11).city("f#", -11).city("firm 1 p=1#;#", -20);
        r.city("#rub 1", -10).city("rub 1##", -15).city("rub 1;rub", -19).city("rub 1;rub 1#", -21);
        r.city("rub 1;firm 1 p=1&", -27).city("rub 1;firm 1 (p=1", -27).city("rub 1;firm 1 (p=1#", -27);
        r.is("count(2)", 0).is("told(1)", 3).is("count(7)", 0);
        String long99 = "rub 1;rub 1;" + "firm 1 p=1" + "|p=1".repeat(19) + "|";
        r.city(long99, -10 - 99).city(long99 + "p", -110).city(long99 + "#", -10 - 99);
    }

    /** A text that ends too early faults at its end; with a byte that can't come, there. */
    private static void everyPrefix() {
        String whole = "firm 12 !(p=1|k<2)&v>0;weak 3 d=10;rub 45";
        String[] cities = {"firm 12 !(p=1|k<2)", "firm 12 !(p=1|k<2)&v>0", "firm 12 !(p=1|k<2)&v>0;weak 3 d=1",
            "firm 12 !(p=1|k<2)&v>0;weak 3 d=10", "firm 12 !(p=1|k<2)&v>0;weak 3 d=10;rub 4", whole};
        for (int length = 0; length <= whole.length(); length++) {
            String prefix = whole.substring(0, length);
            boolean isCity = false;
            for (String city : cities) {
                isCity |= city.equals(prefix);
            }
            new Run().city(prefix, isCity ? 0 : -10 - length).city(prefix + "#", -10 - length);
        }
    }

    private static void newestCity() {
        Edge.of(T, "The newest CITY holds (6 at most); without one there are no CLAUSES. ");
        Run r = new Run().does("wearer(0, 0, 0)", "saying(0, 1)").is("of(0, 10)", 0).is("told(1)", 3);
        for (int i = 0; i < 6; i++) {
            r.city("firm " + (i + 1) + " p=0;rub " + (i + 10), i).is("of(0, 10)", i + 1).is("told(1)", i + 10);
        }
        r.city("firm 7 p=0", Edge.FULL).is("of(0, 10)", 6).is("told(1)", 15).is("count(2)", 6);
        r = new Run().does("wearer(0, 0, 0)", "saying(0, 1)").city("firm 5 p=0;firm 6 p=0;rub 8", 0);
        r.city("firm 1 p=1", 1).is("of(0, 10)", 0).is("told(1)", 3);
    }

    private static void rub() {
        Edge.of(T, "RUB (3 without): the last one's n. ");
        Run r = new Run().does("wearer(0, 0, 99)", "saying(0, 1)", "aim(0, 0)").is("told(1)", 3).is("on(1, 10)", 96);
        r.city("firm 1 p=0", 0).is("told(1)", 3).is("on(1, 10)", 96);
        r.city("rub 0", 1).is("told(1)", 0).is("on(60, 10)", 99);
        r.city("rub 99", 2).is("told(1)", 99).is("on(1, 10)", 0);
        r.city("rub 8;firm 1 p=0;rub 2;weak 1 p=0", 3).is("told(1)", 2).is("on(1, 10)", 97);
        r.city("firm 1 p=0", 4).is("told(1)", 3).is("on(1, 10)", 96);
    }

    private static void sum() {
        Edge.of(T, "SUM of a WEARER and a SAYING: COVER by 5 (cut), and the n of all firm whose E holds, less those of "
            + "all weak, together (may be below 0).");
        int[][] covers = {{0, 0}, {4, 0}, {5, 1}, {9, 1}, {10, 2}, {94, 18}, {95, 19}, {99, 19}};
        Run r = new Run().does("wearer(0, 0, 0)", "saying(0, 1)", "saying(0, 1)");
        for (int[] c : covers) {
            r.does("mend(0, " + c[0] + ")").is("of(0, 10)", c[1]);
        }
        r.city("firm 1 p=0;firm 2 s=0;firm 40 s=1").is("of(0, 10)", 22).is("of(0, 11)", 60);
        r.city("weak 1 p=0;weak 20 s=0;weak 40 p=1").is("of(0, 10)", -2).is("of(0, 11)", 18);
        r.city("weak 9 p=0;firm 4 p=0;weak 14 p=0;firm 0 p=0").is("of(0, 10)", 0).does("mend(0, 94)");
        r.is("of(0, 10)", -1).city("weak 99 p=0" + ";weak 99 p=0".repeat(7)).is("of(0, 10)", 18 - 792);
        r.city("firm 99 p=0" + ";firm 99 p=0".repeat(7)).is("of(0, 10)", 18 + 792);
    }

    /** The GUARD of one of this kind by a SUM: of a COVER, and weak. */
    private static void guard(int kind, int v, int cover, int weak, int want) {
        Run r = new Run().does("wearer(" + kind + ", " + v + ", " + cover + ")", "saying(0, 1)");
        r.city("weak " + weak + " p=0").is("of(0, 10)", want);
    }

    private static void guards() {
        Edge.of(T, "GUARD of a WEARER against a SAYING (may be below 0): WEARER: SUM. ");
        guard(0, 9, 0, 0, 0);
        guard(0, 9, 99, 0, 19);
        guard(0, 9, 0, 1, -1);
        Edge.of(T, "CLERK: SUM and v. ");
        guard(1, 0, 0, 0, 0);
        guard(1, 9, 99, 0, 28);
        guard(1, 9, 0, 10, -1);
        Edge.of(T, "SOFT: the half (cut toward 0) of SUM. ");
        int[][] halves = {{99, 0, 9}, {10, 0, 1}, {15, 0, 1}, {5, 0, 0}, {0, 0, 0}, {0, 1, 0}, {0, 2, -1}, {0, 3, -1},
            {0, 4, -2}, {5, 99, -49}, {0, 99, -49}};
        for (int[] h : halves) {
            guard(2, 9, h[0], h[1], h[2]);
        }
        Edge.of(T, "BANKER: as CLERK; twice that, if COVER is 50 or more. ");
        guard(4, 9, 49, 0, 18);
        guard(4, 9, 50, 0, 38);
        guard(4, 0, 99, 0, 38);
        guard(4, 9, 0, 0, 9);
        guard(4, 9, 50, 20, -2);
        guard(4, 9, 49, 20, -2);
        guard(4, 0, 50, 20, -20);
        guard(4, 0, 49, 20, -11);
        guard(4, 9, 50, 19, 0);
        Edge.of(T, "KETTLE: as SOFT, and 10. ");
        for (int[] h : halves) {
            guard(5, 9, h[0], h[1], h[2] + 10);
        }
        guard(5, 9, 0, 20, 0);
        guard(5, 9, 0, 22, -1);
    }

    private static void guardsOfHeirs() {
        Edge.of(T, "HEIR: SUM, and DENTS by 5 (cut; 9 at most). ");
        Run r = new Run().does("wearer(3, 9, 0)", "saying(0, 1)", "aim(0, 0)").is("of(0, 10)", 0);
        r.days(4).is("of(0, 10)", 0).days(1).is("of(0, 10)", 1).days(4).is("of(0, 10)", 1).days(1).is("of(0, 10)", 2);
        r.days(34).is("of(0, 3)", 44).is("of(0, 10)", 8).days(1).is("of(0, 10)", 9);
        r.days(4).is("of(0, 3)", 49).is("of(0, 10)", 9).days(1).is("of(0, 3)", 50).is("of(0, 10)", 9);
        r.days(50).is("of(0, 10)", 9).city("weak 20 p=0").is("of(0, 10)", -11);
        Edge.of(T, "TOLD: as HEIR, and its ROW (four numbers 0 .. 9; 0 at first) at SAYING modulo 4 more, less 4. ");
        r = new Run().does("wearer(6, 9, 0)");
        for (int s = 0; s < 8; s++) {
            r.does("saying(0, 1)").is("of(0, " + (10 + s) + ")", -4);
        }
        r.is("row(0, 0, 9)", 0).is("row(0, 1, 4)", 0).is("row(0, 3, 1)", 0);
        int[] want = {5, 0, -4, -3, 5, 0, -4, -3};
        for (int s = 0; s < 8; s++) {
            r.is("of(0, " + (10 + s) + ")", want[s]);
        }
        r.is("row(0, 2, 10)", Edge.BAD).is("row(0, 2, -1)", Edge.BAD).is("row(0, 4, 0)", Edge.NONE);
        r.does("aim(2, 0)").days(45).is("of(0, 12)", 5).is("of(0, 16)", 5).is("of(0, 14)", 14).days(5);
        r.is("of(0, 14)", 14);
    }

    private static void bite(int hard, int cover, int weak, int want) {
        Run r = new Run().does("wearer(0, 0, " + cover + ")", "saying(" + hard + ", 1)", "aim(0, 0)");
        r.city("weak " + weak + " p=0").is("on(1, 30)", want).days(1).is("of(0, 4)", want).is("of(0, 3)", 1);
    }

    private static void bite() {
        Edge.of(T, "BITE: HARD less GUARD, 0 at least, 99 at most.");
        bite(10, 50, 0, 0);
        bite(11, 50, 0, 1);
        bite(9, 50, 0, 0);
        bite(0, 99, 0, 0);
        bite(0, 0, 0, 0);
        bite(60, 0, 0, 60);
        bite(0, 0, 1, 1);
        bite(60, 0, 38, 98);
        bite(60, 0, 39, 99);
        bite(60, 0, 40, 99);
        bite(60, 0, 99, 99);
    }

    private static void everyDay() {
        Edge.of(T, "A DAY goes, one behind the other by number: each SAYING at a WEARER, of whose EVERY DAY is a "
            + "multiple, strikes, by how that one is then: ");
        for (int every = 1; every <= 9; every++) {
            Run r = new Run().does("wearer(0, 0, 0)", "saying(0, " + every + ")", "saying(9, 1)", "aim(0, 0)");
            r.is("told(4)", 1).days(1).is("of(0, 3)", 1).days(every - 1).is("of(0, 3)", 1).is("told(4)", 1);
            r.days(1).is("of(0, 3)", 2).is("told(4)", every == 1 ? 1 : 0).is("of(0, 4)", 0);
        }
        // COVER 5 keeps off 1 from the first; behind RUB 5 the second meets none
        Run r = new Run().does("wearer(0, 0, 5)", "saying(0, 1)", "saying(9, 1)", "aim(0, 0)", "aim(1, 0)");
        r.city("rub 5").days(1).is("of(0, 4)", 9);
        r = new Run().does("wearer(0, 0, 5)", "saying(9, 1)", "saying(0, 1)", "aim(0, 0)", "aim(1, 0)");
        r.city("rub 5").days(1).is("of(0, 4)", 8);
        // the fifth dent of the day makes the sixth meet an heir who is firmer
        r = new Run().does("wearer(3, 0, 0)");
        for (int s = 0; s < 6; s++) {
            r.does("saying(1, 1)", "aim(" + s + ", 0)");
        }
        r.days(1).is("of(0, 4)", 5);
    }

    private static void strikes() {
        Edge.of(T, "COVER is RUB less (0 at least). ");
        int[][] covers = {{0, 0}, {1, 0}, {6, 0}, {7, 0}, {8, 1}, {99, 92}};
        for (int[] c : covers) {
            Run r = new Run().does("wearer(0, 0, " + c[0] + ")", "saying(60, 1)", "aim(0, 0)").city("rub 7");
            r.days(1).is("of(0, 2)", c[1]);
        }
        Edge.of(T, "DAY is 1 more.");
        new Run().is("pass(1)", 1).is("pass(1)", 2).is("told(0)", 2);
        Edge.none(T, "==== 1 ");
    }
}
