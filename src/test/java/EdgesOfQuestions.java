/** Terms 2: the edges of what is asked, told by hand, acted and imaged. */
final class EdgesOfQuestions {
    private static final int T = Edge.TERMS;

    private EdgesOfQuestions() {
    }

    static void run() {
        beyondTheLastDay();
        askedAgain();
        on();
        sore();
        aim();
        aimByDays();
        mend();
        mendByWhom();
        change();
        seen();
        covers();
        coversOfOthers();
        sores();
        can();
        canOfOthers();
        odds();
        mean();
        plan();
        ends();
        book();
        acts();
        bodies();
        trace();
        image();
    }

    /** On DAY 9999: a CLERK, a bare WEARER, one as thick as can be; saying 0 strikes next on DAY 10000. */
    private static Run onLastDay() {
        Run r = new Run().does("wearer(1, 5, 45)", "wearer(0, 0, 0)", "wearer(0, 0, 99)", "saying(15, 5)").days(9960);
        return r.does("pass(39)", "aim(0, 1)");
    }

    private static void beyondTheLastDay() {
        Edge.of(T, "All that follows is asked, goes on from how all is (DAYS beyond 9999, too), and changes nothing. ");
        Run r = onLastDay().is("told(0)", 9999).is("pass(1)", Edge.STATE).is("pass(0)", 9999);
        r.is("on(1, 31)", 0).is("on(2, 31)", 15).is("on(6, 31)", 15).is("on(7, 31)", 30).is("on(60, 21)", 12);
        r.is("of(1, 5)", 2).is("best(1, 0)", 0).is("best(2, 0)", 2).is("best(1, 1)", Edge.UNMET).is("best(2, 1)", 12);
        r.is("best(1, 10)", 0).is("best(2, 10)", 2).is("odds(0, 0, 1, 0)", 0).is("odds(0, 0, 1, 1)", 1);
        r.is("odds(0, 0, 2, 0)", 1).is("odds(0, 0, 2, 1)", 3).is("mean(2, 0)", 48);
        r.does("see(1, 2, 4)").is("of(1, 6)", 1).is("of(1, 7)", 7).does("see(1, 1, 7)").is("of(1, 7)", 7);
        r.does("aim(0, 0)", "ache(0, 2, false)").is("can(0, 0)", 4).is("can(0, 1)", 6).does("ache(0, 1, false)");
        r.is("can(0, 1)", 6).does("plan(0, 0)").is("ends(0)", 0).does("plan(0, 0)").is("ends(0)", 1).is("ends(1)", 141);
        r.is("mean(2, 0)", 47).city("firm 50 d=0").is("on(2, 30)", 0).is("ends(0)", 0).city("weak 50 d=9");
        r.is("on(2, 30)", 1).is("told(0)", 9999).is("told(2)", 0).is("told(3)", 144).is("of(0, 1)", 5);
    }

    /** Nothing that is asked changes what is asked behind it. */
    private static void askedAgain() {
        String[] asked = {"on(60, 0)", "on(60, 30)", "of(0, 5)", "best(20, 10)", "best(12, 0)", "best(20, 1)", "of(0, 6)",
            "of(0, 7)", "can(0, 0)", "can(0, 1)", "odds(0, 0, 20, 0)", "odds(0, 0, 20, 1)", "mean(60, 0)", "mean(60, 1)",
            "ends(0)", "ends(1)", "looked()", "told(2)", "told(3)", "told(4)", "of(0, 10)"};
        Run r = new Run().does("wearer(3, 2, 40)", "wearer(1, 4, 70)", "saying(30, 2)", "aim(0, 0)", "see(0, 2, 37)",
            "ache(0, 2, true)", "plan(0, 0)", "plan(1, 0)", "plan(3, 0)", "plan(2, 0)", "book(0, 40)");
        long[] first = new long[asked.length];
        for (int i = 0; i < asked.length; i++) {
            first[i] = r.ask(asked[i]);
        }
        for (int i = asked.length - 1; i >= 0; i--) {
            for (int j = 0; j < asked.length && i % 2 == 0; j++) {
                r.is(asked[j], first[j]);
            }
            r.ask(asked[i]);
        }
        r.is("told(0)", 0).is("of(0, 2)", 40).is("of(0, 3)", 0).is("of(0, 4)", 0).is("phrase(0, 2)", 0);
    }

    private static void on() {
        Edge.of(T, "ON n DAYS (0 .. 60): COVER of one; DENTS of one; HURT of one; HURT of all, together. ");
        Run r = new Run().does("wearer(0, 0, 99)", "wearer(0, 0, 0)", "saying(20, 1)", "aim(0, 0)", "saying(7, 1)",
            "aim(1, 1)").city("rub 1");
        r.is("on(0, 10)", 99).is("on(0, 20)", 0).is("on(0, 30)", 0).is("on(0, 0)", 0);
        // 99 .. 95 keep off 19, 94 18
        r.is("on(1, 10)", 98).is("on(1, 20)", 1).is("on(1, 30)", 1).is("on(1, 0)", 8);
        r.is("on(5, 30)", 5).is("on(6, 30)", 7).is("on(6, 0)", 49).is("on(6, 31)", 42);
        r.is("on(59, 10)", 40).is("on(60, 10)", 39).is("on(60, 20)", 60).is("on(60, 21)", 60).is("on(60, 31)", 420);
        r.is("on(61, 0)", Edge.BAD).is("on(-1, 0)", Edge.BAD).is("on(61, 10)", Edge.BAD).is("on(-1, 31)", Edge.BAD);
        r.is("on(MAX, 20)", Edge.BAD).is("on(MIN, 20)", Edge.BAD);
        new Run().is("on(0, 0)", 0).is("on(60, 0)", 0).is("on(61, 0)", Edge.BAD);
    }

    private static void sore() {
        Edge.of(T, "SORE of one: the fewest DAYS (0 .. 60) behind which its HURT is more than now (-5: not by then).");
        Run r = new Run().does("wearer(0, 0, 98)", "wearer(0, 0, 99)", "wearer(0, 0, 0)", "saying(8, 1)", "saying(8, 1)");
        r.does("aim(0, 0)", "aim(1, 1)").city("rub 1").is("of(2, 5)", Edge.UNMET);
        // 98 less 59 keeps off 7, 99 less 59 keeps off 8
        r.is("of(0, 5)", 60).is("of(1, 5)", Edge.UNMET).days(1).is("of(0, 5)", 59).is("of(1, 5)", 60);
        r.days(58).is("of(0, 5)", 1).is("of(1, 5)", 2).days(1).is("of(0, 5)", 1).is("of(0, 4)", 1);
        r = new Run().does("wearer(0, 0, 0)", "saying(1, 9)", "aim(0, 0)").is("of(0, 5)", 1).days(1).is("of(0, 5)", 9);
        r.days(8).is("of(0, 5)", 1);
        // full of HURT, it is never more
        r = new Run().does("wearer(0, 0, 0)", "saying(60, 1)", "aim(0, 0)").city("weak 39 p=0").days(100);
        r.is("of(0, 5)", 1).days(1).is("of(0, 5)", Edge.UNMET);
    }

    private static void aim() {
        Edge.of(T, "AIM of a SAYING and n DAYS (1 .. 20): the WEARER by whom, were it at that one from now on, HURT of "
            + "all, together, is least behind n (of several the first; -5: there are none). ");
        Run r = new Run().does("saying(9, 1)").is("best(1, 10)", Edge.UNMET).is("best(20, 10)", Edge.UNMET);
        r.is("best(0, 10)", Edge.BAD).is("best(21, 10)", Edge.BAD).is("best(-1, 10)", Edge.BAD);
        r.is("best(1, 11)", Edge.NONE).does("wearer(0, 0, 0)").is("best(1, 10)", 0).is("best(20, 10)", 0);
        r.does("wearer(0, 0, 0)").is("best(1, 10)", 0).does("wearer(0, 0, 5)").is("best(1, 10)", 2);
        r.does("wearer(0, 0, 5)", "wearer(0, 0, 4)").is("best(1, 10)", 2).does("wearer(0, 0, 10)").is("best(1, 10)", 5);
        r.does("aim(0, 0)").is("best(1, 10)", 5).is("phrase(0, 2)", 0).does("mend(5, 0)", "aim(0, 5)").is("best(1, 10)", 2);
        // all that no bite comes through are alike
        r.does("mend(1, 99)", "mend(4, 99)").is("best(1, 10)", 1).is("best(20, 10)", 1);
        r.is("best(MAX, 10)", Edge.BAD).is("best(MIN, 10)", Edge.BAD);
    }

    private static void aimByDays() {
        // by COVER 60 and RUB 50 none, 10, 12, 12, ..; by the CLERK's v 7 every day
        Run r = new Run().does("wearer(0, 0, 60)", "wearer(1, 5, 0)", "saying(12, 1)").city("rub 50");
        r.is("best(1, 10)", 0).is("best(2, 10)", 0).is("best(3, 10)", 1).is("best(20, 10)", 1);
        // another saying wears the cover of the one: together it is worse there
        r = new Run().does("wearer(0, 0, 50)", "wearer(0, 0, 50)", "saying(10, 1)", "saying(0, 1)", "aim(1, 0)");
        r.is("best(1, 10)", 0).is("best(2, 10)", 1).does("aim(1, -1)").is("best(2, 10)", 0);
    }

    private static void mend() {
        Edge.of(T, "MEND of n DAYS (1 .. 12): the set with the fewest WEARERS (as bits; of several the least as bits) by "
            + "whose COVERS being 99 now HURT of all, together, is no more behind n than now (-5: none). ");
        new Run().is("best(1, 0)", 0).is("best(12, 0)", 0).is("best(0, 0)", Edge.BAD).is("best(13, 0)", Edge.BAD);
        Run r = new Run().does("wearer(0, 0, 0)", "saying(19, 1)").city("rub 4").is("best(12, 0)", 0);
        // 99 and 95 keep off 19, 91 does not
        r.does("aim(0, 0)").is("best(1, 0)", 1).is("best(2, 0)", 1).is("best(3, 0)", Edge.UNMET);
        r.is("best(12, 0)", Edge.UNMET).is("best(13, 0)", Edge.BAD).is("best(-1, 0)", Edge.BAD);
        r.is("best(MAX, 0)", Edge.BAD).is("best(MIN, 0)", Edge.BAD);
        r = new Run().does("wearer(0, 0, 0)", "saying(20, 1)", "aim(0, 0)").is("best(1, 0)", Edge.UNMET);
        r = new Run().does("wearer(0, 0, 0)", "saying(10, 1)", "aim(0, 0)").city("weak 9 c>9;weak 9 c<9");
        r.is("best(1, 0)", 1).is("best(12, 0)", Edge.UNMET);
        r = new Run().does("wearer(0, 0, 98)", "saying(19, 1)", "aim(0, 0)").city("rub 4");
        r.is("best(1, 0)", 0).is("best(2, 0)", 1);
        // the twelfth strike meets 99 less 44, which keeps off 11
        r = new Run().does("wearer(0, 0, 0)", "saying(11, 1)", "aim(0, 0)").city("rub 4").is("best(12, 0)", 1);
        r = new Run().does("wearer(0, 0, 0)", "saying(12, 1)", "aim(0, 0)").city("rub 4").is("best(12, 0)", Edge.UNMET);
        r.is("best(10, 0)", 1).is("best(11, 0)", Edge.UNMET).is("of(0, 2)", 0);
    }

    private static void mendByWhom() {
        Run r = new Run();
        for (int p = 0; p < 6; p++) {
            r.does("wearer(0, 0, 0)", "saying(9, 1)", "aim(" + p + ", " + p + ")").is("best(1, 0)", (2 << p) - 1);
        }
        r.does("mend(1, 45)", "mend(4, 99)").is("best(1, 0)", 63 - 2 - 16).is("best(2, 0)", 63 - 16);
        // whom a thick cover harms stays as it is; who is hurt either way can't be helped
        r = new Run().does("wearer(0, 0, 50)", "wearer(0, 0, 0)", "saying(10, 1)", "saying(10, 1)", "aim(0, 0)", "aim(1, 1)");
        r.city("weak 60 c=9&p=0").is("best(1, 0)", 2).does("mend(0, 49)").is("best(1, 0)", Edge.UNMET);
        // whose HURT is full is no more hurt
        r = new Run().does("wearer(0, 0, 0)", "wearer(0, 0, 0)", "saying(60, 1)", "aim(0, 0)").city("weak 39 p=0");
        r.days(100).is("best(1, 0)", Edge.UNMET).days(1).is("best(12, 0)", 0).does("saying(1, 1)", "aim(1, 1)");
        r.is("best(12, 0)", 2);
    }

    private static void change() {
        Edge.of(T, "CHANGE of n DAYS (1 .. 20): the two (10 times the lesser and the greater number) who should change "
            + "their COVERS now, so that HURT of all, together, is least behind n, if less than as it is (of several the "
            + "first; -5: none).");
        new Run().is("best(1, 1)", Edge.UNMET).is("best(0, 1)", Edge.BAD).is("best(21, 1)", Edge.BAD);
        Run r = new Run().does("wearer(0, 0, 0)", "saying(9, 1)", "aim(0, 0)").is("best(20, 1)", Edge.UNMET);
        r.does("wearer(0, 0, 0)").is("best(20, 1)", Edge.UNMET).does("mend(1, 4)").is("best(1, 1)", Edge.UNMET);
        r.does("mend(1, 5)").is("best(1, 1)", 1).is("best(20, 1)", 1).is("best(21, 1)", Edge.BAD);
        r.is("best(0, 1)", Edge.BAD).is("best(MAX, 1)", Edge.BAD).is("best(MIN, 1)", Edge.BAD);
        r.does("wearer(0, 0, 9)").is("best(1, 1)", 1).does("mend(2, 10)").is("best(1, 1)", 2);
        r.does("aim(0, 2)").is("best(1, 1)", Edge.UNMET).does("mend(0, 20)", "mend(1, 20)").is("best(1, 1)", 2);
        r.does("mend(1, 25)").is("best(1, 1)", 12).is("of(1, 2)", 25).is("of(2, 2)", 10);
        // two who are both struck, alike: what the one gains the other loses
        r = new Run().does("wearer(0, 0, 0)", "wearer(0, 0, 20)", "saying(9, 1)", "saying(9, 1)", "aim(0, 0)", "aim(1, 1)");
        r.is("best(1, 1)", Edge.UNMET);
        r = new Run();
        for (int p = 0; p < 6; p++) {
            r.does("wearer(0, 0, 0)");
        }
        r.does("mend(5, 50)", "saying(30, 1)", "aim(0, 4)").is("best(20, 1)", 45).does("aim(0, 0)").is("best(20, 1)", 5);
        r.does("aim(0, 5)").is("best(1, 1)", Edge.UNMET);
        // a day decides: behind 1 nobody is struck by what goes every 2 DAYS
        r.does("aim(0, 3)").days(1).is("best(1, 1)", 35).does("aim(0, -1)", "saying(30, 2)", "aim(1, 3)");
        r.is("best(1, 1)", Edge.UNMET).is("best(2, 1)", 35);
    }

    private static void seen() {
        Edge.of(T, "SEEN told by hand: one, DAYS n (0 .. 12) from now, its COVER then (0 .. 99; 5 rows at most). ");
        Run r = new Run().does("wearer(0, 0, 0)").is("see(0, -1, 0)", Edge.BAD).is("see(0, 13, 0)", Edge.BAD);
        r.is("see(0, 0, -1)", Edge.BAD).is("see(0, 0, 100)", Edge.BAD).is("count(3)", 0).is("see(0, 0, 0)", 1);
        r.is("see(0, 12, 99)", 2).is("see(0, 12, 0)", 3).is("see(0, 0, 99)", 4).is("see(0, 6, 50)", 5);
        r.is("see(0, 6, 50)", Edge.FULL).is("count(3)", 5).is("see(-1, 0, 0)", 0).is("see(0, 6, 50)", 1);
        // from now: as DAYS go, the same row says another thing
        r = new Run().does("wearer(0, 0, 50)", "saying(0, 5)", "aim(0, 0)", "see(0, 1, 50)").is("of(0, 7)", 53);
        r.days(1).is("of(0, 7)", 50).days(4).is("of(0, 7)", 53);
    }

    private static void covers() {
        Edge.of(T, "COVERS of one: how many numbers (0 .. 99) there are by which, were that its COVER now, all of SEEN is "
            + "so; the least (-5: none). ");
        Run r = new Run().does("wearer(0, 0, 50)", "saying(0, 1)", "aim(0, 0)").is("of(0, 6)", 100).is("of(0, 7)", 0);
        long[][] rows = {{0, 0, 1, 0}, {0, 99, 1, 99}, {0, 50, 1, 50}, {1, 0, 4, 0}, {1, 1, 1, 4}, {1, 96, 1, 99},
            {1, 97, 0, -5}, {12, 0, 37, 0}, {12, 1, 1, 37}, {12, 63, 1, 99}, {12, 64, 0, -5}, {12, 99, 0, -5}};
        for (long[] row : rows) {
            r.does("see(-1, 0, 0)", "see(0, " + row[0] + ", " + row[1] + ")").is("of(0, 6)", row[2]).is("of(0, 7)", row[3]);
        }
        r.does("see(-1, 0, 0)", "see(0, 12, 0)", "see(0, 11, 3)").is("of(0, 6)", 1).is("of(0, 7)", 36);
        r.does("see(0, 10, 6)", "see(0, 0, 36)", "see(0, 1, 33)").is("of(0, 6)", 1).is("of(0, 7)", 36);
        r.does("see(-1, 0, 0)", "see(0, 3, 9)", "see(0, 2, 13)").is("of(0, 6)", 0).is("of(0, 7)", Edge.UNMET);
        r.does("see(-1, 0, 0)", "see(0, 3, 0)", "see(0, 2, 0)").is("of(0, 6)", 7).is("of(0, 2)", 50);
        r.city("rub 0").is("of(0, 6)", 1).is("of(0, 7)", 0).city("rub 99").is("of(0, 6)", 100).is("of(0, 7)", 0);
        r.does("see(-1, 0, 0)").is("of(0, 6)", 100).is("of(0, 7)", 0);
    }

    /** All of SEEN must be so, of whomever it tells; what is tried is the COVER of the asked one alone. */
    private static void coversOfOthers() {
        Run r = new Run().does("wearer(0, 0, 10)", "wearer(0, 0, 20)", "wearer(0, 0, 30)", "wearer(0, 0, 40)");
        r.does("saying(0, 1)", "saying(0, 1)", "saying(0, 1)", "aim(0, 0)", "aim(1, 1)", "aim(2, 3)");
        r.does("see(2, 5, 30)", "see(0, 2, 4)", "see(3, 12, 4)", "see(1, 1, 17)");
        r.is("of(0, 7)", 10).is("of(1, 7)", 20).is("of(2, 7)", 30).is("of(3, 7)", 40).is("of(1, 6)", 1);
        r.does("mend(3, 41)").is("of(0, 6)", 0).is("of(1, 6)", 0).is("of(2, 6)", 0).is("of(3, 6)", 1).is("of(3, 7)", 40);
        r.does("mend(3, 40)", "mend(0, 11)").is("of(0, 7)", 10).is("of(1, 7)", Edge.UNMET).is("of(2, 7)", Edge.UNMET);
        r.is("of(3, 7)", Edge.UNMET).does("mend(0, 10)", "see(1, 0, 21)");
        for (int p = 0; p < 4; p++) {
            r.is("of(" + p + ", 6)", 0).is("of(" + p + ", 7)", Edge.UNMET);
        }
        r.does("see(-1, 0, 0)", "see(1, 3, 11)", "see(2, 3, 30)").is("of(0, 6)", 100).is("of(3, 6)", 100);
        r.is("of(1, 7)", 20).is("of(2, 7)", 30).does("mend(2, 31)").is("of(0, 6)", 0).is("of(1, 6)", 0);
        r.is("of(2, 6)", 1).is("of(3, 6)", 0);
    }

    private static void sores() {
        Edge.of(T, "SORES told by hand: one, DAYS n (0 .. 12) from now, whether its HURT is more then than now (5 rows at "
            + "most). ");
        Run r = new Run().does("wearer(0, 0, 0)").is("ache(0, -1, false)", Edge.BAD).is("ache(0, 13, false)", Edge.BAD);
        r.is("count(4)", 0).is("ache(0, 0, false)", 1).is("ache(0, 12, true)", 2).is("ache(0, 12, false)", 3);
        r.is("ache(0, 0, true)", 4).is("ache(0, 6, true)", 5).is("ache(0, 6, true)", Edge.FULL).is("count(4)", 5);
        r.is("ache(-1, 0, true)", 0).is("ache(0, 6, true)", 1);
        // from now: behind the DAY 0 it is hurt on DAY 5 again
        r = new Run().does("wearer(1, 0, 0)", "saying(4, 5)", "aim(0, 0)", "ache(0, 1, true)").is("can(0, 0)", 4);
        r.days(1).is("can(0, 0)", 0).days(4).is("can(0, 0)", 4).is("of(0, 4)", 4);
    }

    private static void can() {
        Edge.of(T, "CAN of one: how many numbers v (0 .. 9) there are by which, were that its v, all of SORES is so; the "
            + "least (-5: none).");
        // HARD, and what is due: how many and the least by whom it is hurt, and by whom not
        long[][] rows = {{0, 0, -5, 10, 0}, {1, 1, 0, 9, 1}, {5, 5, 0, 5, 5}, {9, 9, 0, 1, 9}, {10, 10, 0, 0, -5}};
        for (long[] row : rows) {
            Run r = new Run().does("wearer(1, 9, 0)", "saying(" + row[0] + ", 1)", "aim(0, 0)");
            r.is("can(0, 0)", 10).is("can(0, 1)", 0).does("ache(0, 1, true)").is("can(0, 0)", row[1]).is("can(0, 1)", row[2]);
            r.does("ache(-1, 0, true)", "ache(0, 12, false)").is("can(0, 0)", row[3]).is("can(0, 1)", row[4]);
            r.does("ache(0, 12, true)").is("can(0, 0)", 0).is("can(0, 1)", Edge.UNMET).is("of(0, 1)", 9);
        }
        Run r = new Run().does("wearer(1, 9, 0)", "saying(60, 1)", "aim(0, 0)", "ache(0, 0, true)");
        r.is("can(0, 0)", 0).is("can(0, 1)", Edge.UNMET).does("ache(-1, 0, true)", "ache(0, 0, false)");
        r.is("can(0, 0)", 10).is("can(0, 1)", 0);
        // COVER 18, 15, 12, .. keeps off 3, 3, 2, ..: by v 2 it is hurt from the third strike on
        r = new Run().does("wearer(1, 9, 18)", "saying(5, 1)", "aim(0, 0)", "ache(0, 2, false)", "ache(0, 3, true)");
        r.is("can(0, 0)", 1).is("can(0, 1)", 2).does("ache(-1, 0, true)", "ache(0, 3, true)").is("can(0, 0)", 3);
        r.city("weak 20 v=7;firm 60 v=1").is("can(0, 0)", 3).is("can(0, 1)", 0).does("ache(0, 1, true)").is("can(0, 1)", 0);
        // full of HURT, it is no more
        r = new Run().does("wearer(1, 0, 0)", "saying(60, 1)", "aim(0, 0)").city("weak 90 p=0").days(101);
        r.is("of(0, 4)", 9999).does("ache(0, 12, false)").is("can(0, 0)", 10).does("ache(0, 12, true)").is("can(0, 0)", 0);
    }

    private static void canOfOthers() {
        Run r = new Run().does("wearer(1, 1, 0)", "wearer(1, 2, 0)", "wearer(1, 3, 0)", "wearer(0, 4, 0)");
        r.does("saying(2, 1)", "saying(2, 1)", "saying(2, 1)", "aim(0, 0)", "aim(1, 1)", "aim(2, 2)");
        r.does("ache(1, 4, false)", "ache(3, 12, false)", "ache(0, 1, true)", "ache(2, 2, false)");
        r.is("can(0, 0)", 2).is("can(0, 1)", 0).is("can(1, 0)", 8).is("can(1, 1)", 2).is("can(2, 1)", 2);
        r.is("can(3, 0)", 10).is("can(3, 1)", 0).does("mend(2, 0)", "aim(2, 3)");
        r.is("can(0, 0)", 0).is("can(1, 1)", Edge.UNMET).is("can(2, 0)", 0).is("can(3, 0)", 0);
        r.city("firm 9 v>6&p=3").is("can(0, 0)", 0).is("can(3, 0)", 3).is("can(3, 1)", 7).is("can(2, 0)", 0);
        r.does("aim(2, -1)").is("can(2, 0)", 10).is("can(0, 0)", 2).does("mend(0, 5)").is("can(0, 0)", 1);
        r.does("mend(0, 10)").is("can(0, 0)", 0).is("can(1, 0)", 0).is("can(2, 0)", 0).is("can(3, 0)", 0);
    }

    private static void fraction(Run r, String call, int above, int below) {
        r.is(call + ", 0)", above).is(call + ", 1)", below);
    }

    private static void odds() {
        Edge.of(T, "ODDS of a SAYING, one and n DAYS (0 .. 20): if the SAYING is at any of WEARERS, each alike likely, "
            + "from now on: how likely HURT of the told one is more behind n than now: a fraction in lowest terms (NO: "
            + "there are none). ");
        Run r = new Run().does("saying(9, 1)");
        r.is("odds(0, 0, 0, 0)", Edge.NO).is("odds(0, 0, 20, 1)", Edge.NO);
        for (int many = 1; many <= 6; many++) {
            r.does("wearer(0, 0, 0)");
            fraction(r, "odds(0, " + (many - 1) + ", 1", 1, many);
            fraction(r, "odds(0, 0, 20", 1, many);
            fraction(r, "odds(0, 0, 0", 0, 1);
        }
        r.is("odds(0, 6, 1, 0)", Edge.NO).is("odds(0, 0, 21, 0)", Edge.NO).is("odds(0, 0, -1, 0)", Edge.NO);
        r.is("odds(0, 0, MAX, 1)", Edge.NO).is("odds(0, 0, MIN, 1)", Edge.NO).is("odds(1, 0, 1, 0)", Edge.NO);
        r.does("saying(9, 1)", "aim(1, 2)");
        fraction(r, "odds(0, 2, 1", 1, 1);
        fraction(r, "odds(0, 3, 1", 1, 6);
        fraction(r, "odds(1, 2, 1", 1, 6);
        fraction(r, "odds(1, 0, 1", 1, 6);
        // COVER 61 less 57 keeps off nothing at the twentieth strike, 61 less 54 does at the one before
        r = new Run().does("wearer(0, 0, 61)", "wearer(0, 0, 0)", "saying(1, 1)");
        fraction(r, "odds(0, 0, 19", 0, 1);
        fraction(r, "odds(0, 0, 20", 1, 2);
        // one whom DENTS make firm is hurt, unless the saying is at that one
        r = new Run().does("wearer(3, 0, 0)", "wearer(0, 0, 0)", "wearer(0, 0, 0)", "wearer(0, 0, 0)", "wearer(0, 0, 0)",
            "wearer(0, 0, 0)", "saying(0, 1)", "saying(1, 1)", "aim(1, 0)");
        for (int s = 2; s < 6; s++) {
            r.does("saying(0, 1)", "aim(" + s + ", 0)");
        }
        fraction(r, "odds(0, 0, 1", 1, 1);
        r.does("aim(1, -1)", "saying(1, 1)", "aim(6, 0)");
        fraction(r, "odds(0, 0, 1", 5, 6);
        fraction(r, "odds(6, 0, 1", 1, 6);
        r.does("aim(0, 0)").is("on(1, 30)", 0).does("aim(0, -1)", "saying(0, 1)", "aim(7, 0)");
        fraction(r, "odds(7, 0, 1", 1, 1);
    }

    private static void mean() {
        Edge.of(T, "MEAN of n DAYS (0 .. 60): COVER of all behind n, together, by how many they are: a fraction in lowest "
            + "terms (NO: there are none).");
        Run r = new Run().is("mean(0, 0)", Edge.NO).is("mean(60, 1)", Edge.NO).does("wearer(0, 0, 99)");
        fraction(r, "mean(0", 99, 1);
        fraction(r, "mean(60", 99, 1);
        r.is("mean(61, 0)", Edge.NO).is("mean(-1, 0)", Edge.NO).is("mean(MAX, 0)", Edge.NO).is("mean(MIN, 0)", Edge.NO);
        int[][] due = {{99, 2}, {33, 1}, {99, 4}, {99, 5}, {33, 2}};
        for (int[] d : due) {
            r.does("wearer(0, 0, 0)");
            fraction(r, "mean(0", d[0], d[1]);
        }
        int[][] first = {{0, 0, 1}, {1, 1, 6}, {2, 1, 3}, {3, 1, 2}, {4, 2, 3}, {5, 5, 6}, {6, 1, 1}, {7, 7, 6}, {10, 5, 3}};
        for (int[] f : first) {
            r.does("mend(0, " + f[0] + ")");
            fraction(r, "mean(0", f[1], f[2]);
        }
        r.does("mend(0, 99)", "mend(1, 99)", "mend(2, 99)", "mend(3, 99)", "mend(4, 99)", "mend(5, 99)");
        fraction(r, "mean(60", 99, 1);
        r.does("saying(0, 1)", "aim(0, 0)").city("rub 1");
        fraction(r, "mean(1", 593, 6);
        fraction(r, "mean(2", 296, 3);
        fraction(r, "mean(60", 89, 1);
    }

    private static void plan() {
        Edge.of(T, "A PLAN told by hand: what goes (0 a DAY, 1 COVER of WEARER n is 99, 2 SAYING n is at none, 3 HURT of "
            + "WEARER n is 0; 10 rows at most): ");
        Run r = new Run().does("wearer(0, 0, 10)", "wearer(0, 0, 20)", "saying(9, 1)", "saying(30, 1)", "aim(0, 0)",
            "aim(1, 1)", "pass(1)");
        // hurt by 7 and 26, COVER is 7 and 17 now
        r.is("plan(-2, 0)", Edge.NONE).is("plan(4, 0)", Edge.NONE).is("ends(0)", 33).is("ends(1)", 24);
        String[] rows = {"plan(0, 0)", "plan(1, 1)", "plan(0, 0)", "plan(2, 1)", "plan(0, 0)", "plan(3, 1)", "plan(1, 0)",
            "plan(0, 0)", "plan(2, 0)", "plan(3, 0)"};
        // day: 8, 27; mended: day: 9, 11; day: 9; healed: 33; mended; day: none; ..; healed: none
        int[] hurt = {68, 68, 88, 88, 97, 33, 33, 33, 33, 0};
        int[] cover = {18, 103, 97, 97, 96, 96, 195, 192, 192, 192};
        for (int i = 0; i < rows.length; i++) {
            r.is(rows[i], i + 1).is("ends(0)", hurt[i]).is("ends(1)", cover[i]);
        }
        r.is("plan(0, 0)", Edge.FULL).is("count(5)", 10).is("ends(0)", 0).is("told(2)", 33).is("told(3)", 24);
        r.is("phrase(0, 2)", 0).is("phrase(1, 2)", 1).is("told(0)", 1).is("plan(-1, 0)", 0).is("ends(0)", 33);
    }

    private static void ends() {
        Edge.of(T, "ENDS: HURT of all, together; COVER of all, together. ");
        new Run().is("ends(0)", 0).is("ends(1)", 0).does("plan(0, 0)").is("ends(0)", 0).is("ends(1)", 0);
        Run r = new Run();
        for (int p = 0; p < 6; p++) {
            r.does("wearer(0, 0, 99)", "saying(60, 1)", "aim(" + p + ", " + p + ")");
        }
        r.is("ends(0)", 0).is("ends(1)", 594).does("plan(0, 0)").is("ends(0)", 246).is("ends(1)", 576);
        r.does("plan(0, 0)").is("ends(0)", 492).is("ends(1)", 558).does("plan(1, 5)").is("ends(1)", 564);
        r.does("plan(3, 5)").is("ends(0)", 410).does("plan(2, 5)", "plan(0, 0)").is("ends(0)", 410 + 210);
        r.is("ends(1)", 549);
    }

    private static void book() {
        Edge.of(T, "A BOOK told by hand: WEARERS, COVER (0 .. 99; 8 at most): LOOKED at: the number (from 0) of the first "
            + "of these rows by which it is otherwise now (-5: none).");
        Run r = new Run().is("looked()", Edge.UNMET).does("wearer(0, 0, 0)", "wearer(0, 0, 99)").is("looked()", Edge.UNMET);
        r.is("book(0, -1)", Edge.BAD).is("book(0, 100)", Edge.BAD).is("count(6)", 0);
        for (int i = 1; i <= 7; i++) {
            r.is("book(" + i % 2 + ", " + 99 * (i % 2) + ")", i).is("looked()", Edge.UNMET);
        }
        r.is("book(1, 98)", 8).is("looked()", 7).is("book(1, 99)", Edge.FULL).is("looked()", 7).is("count(6)", 8);
        r.does("mend(1, 98)").is("looked()", 0).does("mend(1, 99)", "mend(0, 1)").is("looked()", 1);
        r.does("mend(0, 0)", "saying(0, 1)", "aim(0, 1)").is("looked()", 7).days(1).is("looked()", 0);
        r.is("book(-1, 0)", 0).is("looked()", Edge.UNMET);
    }

    private static void acts() {
        Edge.of(T, "ACTS of a WEARER with x (wrapping): 0 nods, 1 knocks, 2 tells; i its number. ");
        Run r = new Run().does("wearer(0, 9, 0)", "wearer(0, 0, 0)").is("act(0, 0, MAX)", Integer.MAX_VALUE);
        r.is("act(1, 0, MAX)", Integer.MIN_VALUE).is("act(0, 1, MIN)", Integer.MAX_VALUE - 8).is("act(1, 2, MAX)", 0);
        r.is("act(1, 2, 1073741823)", Integer.MIN_VALUE).is("act(1, 2, 1073741822)", Integer.MAX_VALUE - 1);
        r.is("act(0, -1, 1)", 0).is("act(0, 3, 1)", 0).is("act(2, 0, 1)", 0).is("act(-1, 0, 1)", 0);
        r = new Run().does("wearer(1, 1, 0)", "wearer(2, 0, 0)", "wearer(3, 0, 0)", "wearer(4, 0, 0)", "wearer(5, 0, 0)",
            "wearer(6, 9, 0)");
        r.is("act(0, 1, MIN)", Integer.MAX_VALUE ^ 6).is("act(1, 0, MAX)", Integer.MAX_VALUE - 1);
        r.is("act(1, 0, 715827883)", Integer.MIN_VALUE + 2).is("act(2, 2, 1073741821)", -2147483647);
        r.is("act(3, 0, MIN)", -(Integer.MIN_VALUE + 3)).is("act(3, 0, 2147483645)", Integer.MIN_VALUE);
        // -(MIN + 3) less 0, ^ 6
        r.is("act(3, 1, MAX)", (Integer.MAX_VALUE - 2) ^ 6).is("act(4, 0, MAX)", Integer.MIN_VALUE + 1);
        // x is MIN less 4, three times that and 4 is MIN less 8, twice that is -16
        r.is("act(4, 2, MIN)", -16).is("act(5, 0, MAX)", (Integer.MIN_VALUE + 4) ^ 9);
        r.is("act(5, 1, MAX)", ((Integer.MIN_VALUE + 4) ^ 9) - 9 + 7);
    }

    private static void acted(Run r, String call, int want, int... bodies) {
        r.is(call, want).is("count(8)", bodies.length);
        for (int i = 0; i < bodies.length; i++) {
            r.is("trace(" + i + ")", bodies[i]);
        }
        r.is("trace(" + bodies.length + ")", Edge.NONE);
    }

    private static void bodies() {
        Edge.of(T, "BODIES: WEARER: 10 nods: x + i. 11 knocks: nods(x) - v. 12 tells: knocks(x) * 2. ");
        Run r = new Run().does("wearer(0, 4, 0)", "wearer(1, 3, 0)", "wearer(2, 2, 0)", "wearer(3, 5, 0)",
            "wearer(4, 7, 0)", "wearer(5, 1, 0)");
        acted(r, "act(0, 0, 0)", 0, 10);
        acted(r, "act(0, 1, 0)", -4, 11, 10);
        acted(r, "act(0, 2, -1)", -10, 12, 11, 10);
        Edge.of(T, "CLERK: 20 knocks: super.knocks(x) ^ 6. ");
        acted(r, "act(1, 0, -1)", 0, 10);
        acted(r, "act(1, 1, 0)", -2 ^ 6, 20, 11, 10);
        acted(r, "act(1, 2, 9)", 2, 12, 20, 11, 10);
        Edge.of(T, "SOFT: 30 nods: super.nods(x * 3). ");
        acted(r, "act(2, 0, -1)", -1, 30, 10);
        acted(r, "act(2, 1, 1)", 3, 11, 30, 10);
        acted(r, "act(2, 2, 0)", 0, 12, 11, 30, 10);
        Edge.of(T, "HEIR: 40 tells: super.tells(x) + knocks(1). ");
        acted(r, "act(3, 0, -3)", 0, 10);
        acted(r, "act(3, 1, 0)", -2, 11, 10);
        acted(r, "act(3, 2, 0)", -4 - 1, 40, 12, 11, 10, 11, 10);
        Edge.of(T, "BANKER: 50 nods: -super.nods(x). 51 knocks: super.knocks(x + 1). ");
        acted(r, "act(4, 0, 0)", -4, 50, 10);
        acted(r, "act(4, 1, 0)", -12 ^ 6, 51, 20, 11, 50, 10);
        acted(r, "act(4, 2, 0)", 2 * (-12 ^ 6), 12, 51, 20, 11, 50, 10);
        Edge.of(T, "KETTLE: 60 tells: super.tells(x - i). ");
        acted(r, "act(5, 0, 0)", 5, 30, 10);
        acted(r, "act(5, 1, 0)", 4, 11, 30, 10);
        acted(r, "act(5, 2, 0)", 2 * (-15 + 5 - 1), 60, 12, 11, 30, 10);
        Edge.of(T, "TOLD: 70 knocks: super.knocks(x) + super.nods(2). 71 nods: super.nods(x) ^ v. ");
        r = new Run().does("wearer(0, 0, 0)", "wearer(6, 6, 0)");
        acted(r, "act(1, 0, 2)", 3 ^ 6, 71, 10);
        acted(r, "act(1, 1, 2)", (3 ^ 6) - 6 + 3, 70, 11, 71, 10, 10);
        int knocksOne = (2 ^ 6) - 6 + 3;
        acted(r, "act(1, 2, 2)", 2 * ((3 ^ 6) - 6 + 3) + knocksOne, 40, 12, 70, 11, 71, 10, 10, 70, 11, 71, 10, 10);
    }

    private static void trace() {
        Edge.of(T, "nods(..) and so on: the body of its KIND, or, if that has none, of the next KIND above that has one; "
            + "super.nods(..): so from the KIND above the body's on; all that stands in a body is done from the left on. ");
        Run r = new Run().does("wearer(6, 0, 0)", "wearer(4, 0, 0)", "wearer(5, 0, 0)").does("act(0, 2, 5)");
        int[] toldTells = {40, 12, 70, 11, 71, 10, 10, 70, 11, 71, 10, 10};
        for (int i = 0; i < toldTells.length; i++) {
            r.is("trace(" + i + ")", toldTells[i]);
        }
        r.does("act(1, 2, 5)").is("trace(0)", 12).is("trace(1)", 51).is("trace(2)", 20).does("act(2, 1, 5)");
        r.is("trace(0)", 11).is("trace(1)", 30).is("trace(2)", 10).is("trace(3)", Edge.NONE);
        Edge.of(T, "THE TRACE: the numbers of the bodies that ran in the latest act(), as they began; the first 20 are "
            + "kept.");
        new Run().is("trace(0)", Edge.NONE).is("count(8)", 0);
        r.does("act(0, 2, 5)").is("count(8)", 12).is("trace(11)", 10).is("trace(12)", Edge.NONE);
        r.is("trace(19)", Edge.NONE).is("trace(20)", Edge.NONE).does("act(0, 0, 5)").is("count(8)", 2);
        r.is("trace(0)", 71).is("trace(1)", 10).is("trace(2)", Edge.NONE).is("trace(11)", Edge.NONE);
        r.does("act(3, 0, 5)").is("count(8)", 0).is("trace(0)", Edge.NONE).is("trace(1)", Edge.NONE);
    }

    private static void image() {
        Edge.of(T, "THE IMAGE: WEARERS with all that is theirs, SAYINGS, DAY, SEEN, SORES, the PLAN, the BOOK, which CITY "
            + "holds.");
        Run r = new Run().is("undo()", Edge.STATE).is("image()", 0).does("wearer(6, 9, 99)", "saying(60, 1)", "aim(0, 0)");
        r.does("row(0, 0, 9)", "pass(3)", "see(0, 0, 0)", "ache(0, 0, true)", "plan(0, 0)", "book(0, 0)").city("rub 0");
        r.is("undo()", 0);
        for (int what = 0; what <= 8; what++) {
            r.is("count(" + what + ")", what == 2 ? 1 : 0);
        }
        r.is("told(0)", 0).is("told(1)", 3).is("looked()", Edge.UNMET).is("ends(0)", 0).is("of(0, 0)", Edge.NO_NUMBER);
        r.is("phrase(0, 0)", Edge.NONE).does("wearer(6, 0, 0)", "saying(0, 1)").is("of(0, 10)", -4).is("of(0, 3)", 0);
        r.is("of(0, 4)", 0).is("of(0, 6)", 100).is("can(0, 0)", 10).is("phrase(0, 2)", Edge.UNMET);
        imageWhenFull();
        imageOfRows();
    }

    private static void imageWhenFull() {
        Run r = new Run();
        for (int p = 0; p < 6; p++) {
            r.does("wearer(6, " + p + ", 9" + p + ")", "row(" + p + ", 0, " + p + ")");
        }
        for (int s = 0; s < 8; s++) {
            r.does("saying(60, " + (s + 1) + ")", "aim(" + s + ", " + s % 6 + ")");
        }
        r.days(4).is("image()", 6);
        String[] asked = {"told(0)", "told(2)", "told(3)", "told(4)", "on(60, 0)", "best(20, 1)", "mean(20, 0)"};
        long[] then = new long[asked.length];
        for (int i = 0; i < asked.length; i++) {
            then[i] = r.ask(asked[i]);
        }
        long guard = r.ask("of(5, 10)");
        r.days(50).does("mend(0, 99)", "row(5, 0, 9)", "aim(3, -1)", "aim(4, 0)").city("weak 9 p<6;rub 9");
        r.is("undo()", 6).is("wearer(0, 0, 0)", Edge.FULL).is("saying(0, 1)", Edge.FULL).is("of(5, 10)", guard);
        for (int i = 0; i < asked.length; i++) {
            r.is(asked[i], then[i]);
        }
        r.is("phrase(3, 2)", 3).is("phrase(4, 2)", 4).is("row(5, 0, 9)", 5).is("undo()", 6).is("row(5, 0, 9)", 5);
        r.is("image()", 6).does("row(5, 0, 1)").is("undo()", 6).is("row(5, 0, 1)", 9);
    }

    /** Full rows come back as they were, each with all that it tells. */
    private static void imageOfRows() {
        Run r = new Run().does("wearer(1, 5, 30)", "wearer(1, 5, 40)", "wearer(0, 0, 50)", "saying(9, 1)", "aim(0, 1)");
        r.does("see(1, 2, 34)", "see(1, 1, 37)", "see(2, 12, 50)", "see(0, 0, 30)", "see(1, 12, 4)");
        r.does("ache(1, 1, false)", "ache(2, 3, false)", "ache(1, 12, true)", "ache(0, 0, false)", "ache(1, 11, true)");
        r.does("plan(1, 0)", "plan(0, 0)", "plan(2, 0)", "plan(0, 0)", "plan(3, 1)");
        r.does("book(0, 30)", "book(1, 40)", "book(2, 50)", "book(1, 41)");
        String[] asked = {"of(1, 6)", "of(1, 7)", "of(0, 7)", "can(1, 0)", "can(1, 1)", "can(0, 0)", "ends(0)", "ends(1)",
            "looked()", "count(3)", "count(4)", "count(5)", "count(6)"};
        long[] due = {1, 40, 30, 6, 1, 10, 0, 99 + 37 + 50, 3, 5, 5, 5, 4};
        for (int round = 0; round < 3; round++) {
            for (int i = 0; i < asked.length; i++) {
                r.is(asked[i], due[i]);
            }
            r.does(round == 0 ? "image()" : "undo()", "see(-1, 0, 0)", "ache(-1, 0, true)", "plan(-1, 0)", "book(-1, 0)");
            r.does("see(0, 5, 5)", "ache(0, 5, true)", "plan(3, 2)", "book(2, 2)", "see(0, 6, 6)", "ache(2, 6, true)");
            r.is("of(1, 6)", 0).is("can(1, 0)", 0).is("looked()", 0).is("undo()", 3);
        }
        Edge.none(T, "==== 2 ");
    }
}
