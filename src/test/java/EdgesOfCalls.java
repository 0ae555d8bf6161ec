/** Promises 1 to 34: the edges of each call, as its own words name them. */
final class EdgesOfCalls {
    private EdgesOfCalls() {
    }

    static void run() {
        newObject();
        wearer();
        of();
        saying();
        phrase();
        aim();
        mend();
        row();
        feed();
        city();
        told();
        pass();
        on();
        best();
        see();
        ache();
        can();
        odds();
        mean();
        plan();
        ends();
        book();
        looked();
        judge();
        image();
        undo();
        act();
        trace();
        taken();
        count();
        tape();
        item();
        read();
        shift();
        shiftPlaces();
    }

    /** Each of these calls, and this answer. */
    private static void all(Run r, long want, String... calls) {
        for (String call : calls) {
            r.is(call, want);
        }
    }

    /** So many bare WEARERS, and so many SAYINGS that are at none. */
    private static Run with(int wearers, int sayings) {
        Run r = new Run();
        for (int p = 0; p < wearers; p++) {
            r.does("wearer(0, 0, 0)");
        }
        for (int s = 0; s < sayings; s++) {
            r.does("saying(0, 1)");
        }
        return r;
    }

    private static void newObject() {
        Edge.of(1, "No WEARERS, no SAYINGS, no CITY.");
        Run r = new Run();
        for (int what = 0; what <= 8; what++) {
            r.is("count(" + what + ")", 0);
        }
        all(r, 0, "told(0)", "told(2)", "told(3)", "told(4)", "best(1, 0)", "on(60, 0)", "ends(0)", "ends(1)");
        all(r, Edge.NO_NUMBER, "of(0, 0)", "of(0, 5)", "of(0, 10)");
        all(r, Edge.NONE, "phrase(0, 0)", "aim(0, -1)", "mend(0, 0)", "row(0, 0, 0)", "see(0, 0, 0)", "trace(0)",
            "ache(0, 0, true)", "can(0, 0)", "plan(1, 0)", "plan(2, 0)", "plan(3, 0)", "book(0, 0)", "best(1, 10)");
        all(r, Edge.UNMET, "best(1, 1)", "looked()", "judge(0, 0)");
        all(r, Edge.NO, "odds(0, 0, 0, 0)", "mean(0, 0)", "read(0, 0)");
        r.is("told(1)", 3).is("undo()", Edge.STATE).is("taken(0, 0)", Edge.NOTHING).is("city()", -10).is("act(0, 0, 1)", 0);
        r.is("pass(60)", 60).is("image()", 0).is("undo()", 0);
    }

    private static void wearer() {
        Edge.of(2, "A WEARER: its number. ");
        Run r = new Run().is("wearer(0, 0, 0)", 0).is("wearer(6, 9, 99)", 1);
        Edge.of(2, "NONE: kind; BAD: v, cover; FULL: 6.");
        all(r, Edge.NONE, "wearer(-1, 0, 0)", "wearer(7, 0, 0)", "wearer(MIN, 0, 0)", "wearer(MAX, -1, 100)");
        all(r, Edge.BAD, "wearer(0, -1, 0)", "wearer(0, 10, 0)", "wearer(0, 0, -1)", "wearer(0, 0, 100)",
            "wearer(6, MIN, 0)", "wearer(6, MAX, 0)", "wearer(6, 0, MIN)", "wearer(6, 0, MAX)");
        r.is("count(0)", 2).is("wearer(1, 0, 0)", 2).is("wearer(1, 0, 0)", 3).is("wearer(1, 0, 0)", 4);
        r.is("wearer(1, 0, 0)", 5);
        all(r, Edge.FULL, "wearer(0, 0, 0)", "wearer(6, 9, 99)");
        r.is("wearer(7, 0, 0)", Edge.NONE).is("wearer(0, 10, 0)", Edge.BAD).is("count(0)", 6);
    }

    private static void of() {
        Edge.of(3, "Of a WEARER what 0 KIND, 1 v, 2 COVER, 3 DENTS, 4 HURT, 5 SORE (-5), 6 COVERS: how many, 7 the least "
            + "(-5), 10 and s GUARD against SAYING s, if there is one. ");
        Run r = with(0, 8).does("wearer(1, 7, 50)", "aim(3, 0)", "pass(2)");
        long[] want = {1, 7, 44, 2, 0, Edge.UNMET, 100, 0};
        for (int what = 0; what < want.length; what++) {
            r.is("of(0, " + what + ")", want[what]);
        }
        for (int s = 0; s < 8; s++) {
            r.is("of(0, " + (10 + s) + ")", 15);
        }
        r.does("see(0, 12, 99)").is("of(0, 6)", 0).is("of(0, 7)", Edge.UNMET).does("saying(0, 1)");
        Edge.of(3, "-10001: NONE.");
        all(r, Edge.NO_NUMBER, "of(-1, 0)", "of(1, 0)", "of(6, 0)", "of(0, -1)", "of(0, 8)", "of(0, 9)", "of(0, 18)",
            "of(0, MIN)", "of(0, MAX)", "of(MIN, 0)", "of(MAX, 0)", "of(0, -2147483639)", "of(0, -2147483638)");
        all(with(1, 0), Edge.NO_NUMBER, "of(0, 10)", "of(0, 17)");
        all(with(1, 1), Edge.NO_NUMBER, "of(0, 9)", "of(0, 11)");
    }

    private static void saying() {
        Edge.of(4, "A SAYING: its number. ");
        Run r = new Run().is("saying(0, 1)", 0).is("saying(60, 9)", 1);
        Edge.of(4, "BAD: hard, every; FULL: 8.");
        all(r, Edge.BAD, "saying(-1, 1)", "saying(61, 1)", "saying(0, 0)", "saying(0, 10)", "saying(MIN, 1)",
            "saying(MAX, 1)", "saying(0, MIN)", "saying(0, MAX)", "saying(0, -1)");
        r.is("count(1)", 2);
        for (int s = 2; s <= 7; s++) {
            r.is("saying(0, 1)", s);
        }
        r.is("saying(0, 1)", Edge.FULL).is("saying(60, 9)", Edge.FULL).is("saying(0, 10)", Edge.BAD).is("count(1)", 8);
    }

    private static void phrase() {
        Edge.of(5, "Of a SAYING what 0 HARD, 1 EVERY, 2 at whom (-5: none). ");
        Run r = with(2, 7).does("saying(60, 9)").is("phrase(7, 0)", 60).is("phrase(7, 1)", 9).is("phrase(7, 2)", Edge.UNMET);
        r.does("aim(7, 1)").is("phrase(7, 2)", 1).does("aim(7, 0)").is("phrase(7, 2)", 0).is("phrase(0, 0)", 0);
        r.is("phrase(0, 1)", 1).is("phrase(0, 2)", Edge.UNMET);
        Edge.of(5, "NONE.");
        all(r, Edge.NONE, "phrase(-1, 0)", "phrase(8, 0)", "phrase(0, -1)", "phrase(0, 3)", "phrase(MIN, 0)",
            "phrase(MAX, 0)", "phrase(0, MIN)", "phrase(0, MAX)");
        all(with(1, 1), Edge.NONE, "phrase(1, 0)");
    }

    private static void aim() {
        Edge.of(6, "A SAYING is at a WEARER (wearer -1: at none): at whom it was (-5: none). ");
        Run r = with(6, 8).is("aim(0, -1)", Edge.UNMET).is("aim(0, 0)", Edge.UNMET).is("aim(0, 0)", 0).is("aim(0, 5)", 0);
        r.is("aim(0, -1)", 5).is("aim(0, -1)", Edge.UNMET).is("aim(7, 5)", Edge.UNMET).is("aim(7, -1)", 5);
        Edge.of(6, "NONE.");
        r.does("aim(0, 3)");
        all(r, Edge.NONE, "aim(-1, 0)", "aim(8, 0)", "aim(-1, -1)", "aim(8, -1)", "aim(0, 6)", "aim(0, -2)", "aim(0, -5)",
            "aim(0, MIN)", "aim(0, MAX)", "aim(MIN, 0)", "aim(MAX, 0)");
        r.is("phrase(0, 2)", 3);
        all(with(1, 1), Edge.NONE, "aim(0, 1)", "aim(1, 0)", "aim(1, -1)");
        with(0, 1).is("aim(0, 0)", Edge.NONE).is("aim(0, -1)", Edge.UNMET);
    }

    private static void mend() {
        Edge.of(7, "COVER of a WEARER becomes n (0 .. 99): what it was. ");
        Run r = with(6, 0).is("mend(0, 99)", 0).is("mend(0, 0)", 99).is("mend(5, 99)", 0).is("mend(5, 99)", 99);
        Edge.of(7, "NONE; BAD.");
        all(r, Edge.NONE, "mend(-1, 0)", "mend(6, 0)", "mend(6, 100)", "mend(-1, -1)", "mend(MIN, 0)", "mend(MAX, 0)");
        all(r, Edge.BAD, "mend(5, -1)", "mend(5, 100)", "mend(5, MIN)", "mend(5, MAX)");
        r.is("of(5, 2)", 99);
        all(with(1, 0), Edge.NONE, "mend(1, 0)");
    }

    private static void row() {
        Edge.of(8, "The ROW of a TOLD one becomes n (0 .. 9) for SAYINGS modulo 4 being part: what it was. ");
        Run r = with(0, 8).does("wearer(6, 0, 0)", "wearer(6, 0, 0)");
        for (int part = 0; part <= 3; part++) {
            r.is("row(1, " + part + ", 9)", 0).is("row(1, " + part + ", 0)", 9).is("row(1, " + part + ", " + part + ")", 0);
        }
        for (int s = 0; s < 8; s++) {
            r.is("of(1, " + (10 + s) + ")", s % 4 - 4).is("of(0, " + (10 + s) + ")", -4);
        }
        Edge.of(8, "NONE: wearer, part; BAD; STATE: another KIND.");
        for (int kind = 0; kind <= 3; kind++) {
            r.does("wearer(" + kind + ", 0, 0)").is("row(" + (2 + kind) + ", 0, 0)", Edge.STATE);
        }
        new Run().does("wearer(4, 0, 0)", "wearer(5, 0, 0)").is("row(0, 3, 9)", Edge.STATE).is("row(1, 3, 9)", Edge.STATE);
        all(r, Edge.NONE, "row(-1, 0, 0)", "row(6, 0, 0)", "row(1, -1, 0)", "row(1, 4, 0)", "row(MIN, 0, 0)",
            "row(MAX, 0, 0)", "row(1, MIN, 0)", "row(1, MAX, 0)", "row(2, 4, 0)", "row(2, -1, 10)", "row(6, 0, 10)");
        all(r, Edge.BAD, "row(1, 0, -1)", "row(1, 0, 10)", "row(1, 0, MIN)", "row(1, 0, MAX)", "row(2, 0, 10)",
            "row(2, 0, -1)");
        r.is("row(1, 3, 3)", 3).is("row(1, 0, 0)", 0);
    }

    private static void feed() {
        Edge.of(9, "A sign (0 .. 127) comes behind THE TEXT's: how many it has. ");
        Run r = new Run().is("feed(0)", 1).is("feed(127)", 2).is("city()", -10).is("feed(114)", 1);
        Edge.of(9, "BAD; FULL.");
        all(r, Edge.BAD, "feed(-1)", "feed(128)", "feed(256)", "feed(370)", "feed(MIN)", "feed(MAX)");
        r.is("count(7)", 1).text("ub 1").is("city()", 0);
        for (int i = 1; i <= 100; i++) {
            r.is("feed(" + (i + 20) + ")", i);
        }
        r.is("feed(0)", Edge.FULL).is("feed(127)", Edge.FULL).is("feed(128)", Edge.BAD).is("feed(-1)", Edge.BAD);
        r.is("count(7)", 100).is("city()", -10).is("feed(127)", 1);
    }

    private static void city() {
        Edge.of(10, "THE TEXT, which is empty then (by a FAULT, too), is a CITY, and holds: its number. ");
        Run r = with(1, 1).text("rub 7").is("count(7)", 5).is("city()", 0).is("count(7)", 0).is("told(1)", 7);
        r.text("rub 8#").is("count(7)", 6).is("city()", -15).is("count(7)", 0).is("feed(114)", 1).text("ub 9");
        r.is("city()", 1).is("told(1)", 9).is("count(2)", 2).is("city()", -10).is("count(7)", 0);
        Edge.of(10, "FULL: there are 6 (THE TEXT stays); -10 less the FAULT (the one that held holds).");
        r.city("rub 1;firm 50 p=0;rub 5;", -34).is("told(1)", 9).is("of(0, 10)", 0).is("count(2)", 2);
        r.city("firm 50 p=0;weak 1 p=", -31).is("of(0, 10)", 0).city("firm 3 p=0", 2).is("of(0, 10)", 3).is("told(1)", 3);
        r.city("rub 4", 3).city("rub 5", 4).city("rub", -13).is("told(1)", 5).city("rub 6", 5).is("city()", Edge.FULL);
        r.city("rub 9", Edge.FULL).is("count(7)", 5).is("told(1)", 6).is("count(2)", 6).is("city()", Edge.FULL);
        r.is("feed(35)", 6).is("city()", Edge.FULL).is("count(7)", 6).is("told(1)", 6);
        new Run().city("", -10).city("rub 1" + ";rub 1".repeat(9) + ";", -69).city("firm 1 p=1" + "|p=1".repeat(22) + "|k",
            -110).is("told(1)", 3).is("count(2)", 0);
    }

    private static void told() {
        Edge.of(11, "What 0 DAY, 1 RUB, 2 HURT of all, together, 3 COVER of all, together, 4 which SAYINGS strike on this "
            + "DAY (bits). ");
        Run r = new Run();
        for (int s = 0; s < 8; s++) {
            r.does("saying(60, " + (s + 1) + ")");
        }
        r.is("told(4)", 0).does("wearer(0, 0, 99)", "wearer(0, 0, 99)").is("told(4)", 0).is("told(3)", 198);
        for (int s = 0; s < 8; s++) {
            r.does("aim(" + s + ", " + s % 2 + ")").is("told(4)", (2 << s) - 1);
        }
        int[] bits = {255, 1, 1 + 2, 1 + 4, 1 + 2 + 8, 1 + 16, 1 + 2 + 4 + 32, 1 + 64, 1 + 2 + 8 + 128, 1 + 4};
        for (int day = 0; day < bits.length; day++) {
            r.is("told(0)", day).is("told(4)", bits[day]).does("pass(1)");
        }
        r.does("aim(0, -1)", "aim(1, -1)").is("told(0)", 10).is("told(4)", 16);
        Edge.of(11, "NONE.");
        all(r, Edge.NONE, "told(-1)", "told(5)", "told(MIN)", "told(MAX)");
    }

    private static void pass() {
        Edge.of(12, "n DAYS (0 .. 60) go: DAY. ");
        Run r = with(1, 1).does("aim(0, 0)").is("pass(0)", 0).is("of(0, 3)", 0).is("pass(60)", 60).is("of(0, 3)", 60);
        r.is("pass(1)", 61);
        Edge.of(12, "BAD; STATE: it would be above 9999.");
        all(r, Edge.BAD, "pass(-1)", "pass(61)", "pass(MIN)", "pass(MAX)");
        r.is("told(0)", 61).is("of(0, 3)", 61).days(9878).is("told(0)", 9939).is("pass(1)", 9940).is("pass(60)", Edge.STATE);
        r.is("told(0)", 9940).is("pass(59)", 9999).is("pass(0)", 9999).is("pass(1)", Edge.STATE).is("pass(60)", Edge.STATE);
        r.is("pass(61)", Edge.BAD).is("pass(-1)", Edge.BAD).is("told(0)", 9999).is("of(0, 3)", 9999);
        with(0, 0).days(9939).is("pass(60)", 9999);
    }

    private static void on() {
        Edge.of(13, "ON: what 0 HURT of all, 10 and p COVER, 20 and p DENTS, 30 and p HURT of WEARER p. ");
        Run r = with(5, 0).does("wearer(0, 0, 50)", "saying(20, 1)", "aim(0, 5)").is("on(2, 0)", 21).is("on(2, 10)", 0);
        r.is("on(2, 15)", 44).is("on(2, 25)", 2).is("on(2, 35)", 21).is("on(2, 30)", 0).is("on(2, 20)", 0).is("on(0, 15)", 50);
        Edge.of(13, "NONE; BAD: n.");
        for (int what = 1; what <= 9; what++) {
            all(r, Edge.NONE, "on(2, " + what + ")", "on(2, " + -what + ")");
        }
        all(r, Edge.NONE, "on(2, 16)", "on(2, 19)", "on(2, 26)", "on(2, 29)", "on(2, 36)", "on(2, 39)", "on(2, 40)",
            "on(2, -10)", "on(2, -15)", "on(2, 45)", "on(2, MIN)", "on(2, MAX)", "on(61, 16)", "on(-1, 1)");
        all(r, Edge.BAD, "on(-1, 0)", "on(61, 0)", "on(-1, 15)", "on(61, 25)", "on(61, 35)", "on(MIN, 0)", "on(MAX, 0)");
        all(with(1, 0), Edge.NONE, "on(2, 11)", "on(2, 21)", "on(2, 31)");
        all(with(0, 0), Edge.NONE, "on(2, 10)", "on(2, 20)", "on(2, 30)");
    }

    private static void best() {
        Edge.of(14, "What 0 MEND (n 1 .. 12; bits; -5), 1 CHANGE (n 1 .. 20; -5), 10 and s AIM of SAYING s (n 1 .. 20; -5). ");
        Run r = with(5, 7).does("wearer(0, 0, 99)", "saying(7, 1)", "aim(7, 4)").is("best(1, 0)", 16).is("best(12, 0)", 16);
        r.is("best(1, 1)", 45).is("best(20, 1)", 45).is("best(1, 17)", 5).is("best(20, 17)", 5).is("best(1, 10)", 0);
        r.is("best(20, 10)", 0).does("saying(60, 1)").is("best(20, 16)", 0).does("aim(7, 5)").is("best(12, 0)", 0);
        r.is("best(1, 1)", Edge.UNMET).does("mend(5, 0)", "saying(60, 9)").is("best(12, 0)", 32);
        new Run().does("wearer(0, 0, 0)", "saying(60, 9)", "aim(0, 0)").is("best(1, 0)", Edge.UNMET);
        with(0, 1).is("best(1, 10)", Edge.UNMET).is("best(1, 1)", Edge.UNMET).is("best(1, 0)", 0);
        Edge.of(14, "NONE: what; BAD: n.");
        all(r, Edge.NONE, "best(1, -1)", "best(1, 2)", "best(1, 9)", "best(1, 18)", "best(0, 2)", "best(21, 18)",
            "best(1, MIN)", "best(1, MAX)", "best(1, -2147483639)", "best(1, -2147483638)");
        all(r, Edge.BAD, "best(0, 0)", "best(13, 0)", "best(0, 1)", "best(21, 1)", "best(0, 10)", "best(21, 10)",
            "best(0, 17)", "best(21, 17)", "best(-1, 0)", "best(MIN, 1)", "best(MAX, 1)", "best(20, 0)");
        all(with(1, 1), Edge.NONE, "best(1, 11)");
        all(with(1, 0), Edge.NONE, "best(1, 10)");
    }

    private static void see() {
        Edge.of(15, "What is SEEN comes: how many there are (wearer -1: none then, 0, whatever the rest is). ");
        Run r = with(6, 0).is("see(0, 0, 0)", 1).is("see(5, 12, 99)", 2).is("see(-1, -1, -1)", 0).is("count(3)", 0);
        r.is("see(0, 12, 0)", 1).is("see(-1, 13, 100)", 0).is("see(-1, MIN, MAX)", 0).is("count(3)", 0);
        Edge.of(15, "NONE; BAD: n, cover; FULL: 5.");
        all(r, Edge.NONE, "see(-2, 0, 0)", "see(6, 0, 0)", "see(6, 13, 0)", "see(MIN, 0, 0)", "see(MAX, 0, 0)");
        all(r, Edge.BAD, "see(5, -1, 0)", "see(5, 13, 0)", "see(5, 0, -1)", "see(5, 0, 100)", "see(5, MIN, 0)",
            "see(5, MAX, 0)", "see(5, 0, MIN)", "see(5, 0, MAX)");
        r.is("count(3)", 0);
        for (int i = 1; i <= 5; i++) {
            r.is("see(" + i + ", 0, 0)", i);
        }
        r.is("see(0, 0, 0)", Edge.FULL).is("see(6, 0, 0)", Edge.NONE).is("see(0, 13, 0)", Edge.BAD).is("count(3)", 5);
        r.is("see(-1, 0, 0)", 0).is("see(0, 0, 0)", 1).is("see(0, 0, 0)", 2);
        with(0, 0).is("see(0, 0, 0)", Edge.NONE).is("see(-1, 0, 0)", 0);
    }

    private static void ache() {
        Edge.of(16, "A row comes to SORES: how many there are (wearer -1: none then, 0, whatever the rest is). ");
        Run r = with(6, 0).is("ache(0, 0, true)", 1).is("ache(5, 12, false)", 2).is("ache(-1, -1, true)", 0);
        r.is("count(4)", 0).is("ache(0, 12, true)", 1).is("ache(-1, 13, false)", 0).is("ache(-1, MIN, true)", 0);
        Edge.of(16, "NONE; BAD: n; FULL: 5.");
        all(r, Edge.NONE, "ache(-2, 0, true)", "ache(6, 0, true)", "ache(6, 13, true)", "ache(MIN, 0, true)",
            "ache(MAX, 0, true)");
        all(r, Edge.BAD, "ache(5, -1, true)", "ache(5, 13, true)", "ache(5, MIN, false)", "ache(5, MAX, false)");
        r.is("count(4)", 0);
        for (int i = 1; i <= 5; i++) {
            r.is("ache(" + i + ", 0, false)", i);
        }
        r.is("ache(0, 0, true)", Edge.FULL).is("ache(6, 0, true)", Edge.NONE).is("ache(0, 13, true)", Edge.BAD);
        r.is("count(4)", 5).is("ache(-1, 0, true)", 0).is("ache(0, 0, true)", 1).is("ache(0, 0, true)", 2);
        with(0, 0).is("ache(0, 0, true)", Edge.NONE).is("ache(-1, 0, true)", 0);
    }

    private static void can() {
        Edge.of(17, "CAN: what 0 how many, 1 the least; -5. ");
        Run r = with(6, 0).is("can(5, 0)", 10).is("can(5, 1)", 0).does("ache(0, 12, true)").is("can(5, 0)", 0);
        r.is("can(5, 1)", Edge.UNMET).is("can(0, 1)", Edge.UNMET).does("ache(-1, 0, true)").is("can(0, 0)", 10);
        Edge.of(17, "NONE.");
        all(r, Edge.NONE, "can(-1, 0)", "can(6, 0)", "can(0, -1)", "can(0, 2)", "can(MIN, 0)", "can(MAX, 0)", "can(0, MIN)",
            "can(0, MAX)");
        all(with(1, 0), Edge.NONE, "can(1, 0)");
        all(with(0, 0), Edge.NONE, "can(0, 0)");
    }

    private static void odds() {
        Edge.of(18, "ODDS; part 0 above, 1 below the line. ");
        Run r = with(6, 7).does("saying(1, 1)").is("odds(7, 5, 20, 0)", 1).is("odds(7, 5, 20, 1)", 6);
        r.is("odds(7, 5, 0, 0)", 0).is("odds(7, 5, 0, 1)", 1).is("odds(0, 0, 20, 0)", 0).is("odds(0, 0, 20, 1)", 1);
        Edge.of(18, "NO: saying, wearer, n, part.");
        all(r, Edge.NO, "odds(-1, 0, 0, 0)", "odds(8, 0, 0, 0)", "odds(0, -1, 0, 0)", "odds(0, 6, 0, 0)",
            "odds(0, 0, -1, 0)", "odds(0, 0, 21, 0)", "odds(0, 0, 0, -1)", "odds(0, 0, 0, 2)", "odds(MIN, 0, 0, 0)",
            "odds(MAX, 0, 0, 0)", "odds(0, MIN, 0, 0)", "odds(0, MAX, 0, 0)", "odds(0, 0, MIN, 0)", "odds(0, 0, MAX, 0)",
            "odds(0, 0, 0, MIN)", "odds(0, 0, 0, MAX)");
        all(with(1, 1), Edge.NO, "odds(1, 0, 0, 0)", "odds(0, 1, 0, 0)");
        all(with(1, 0), Edge.NO, "odds(0, 0, 0, 0)");
        all(with(0, 1), Edge.NO, "odds(0, 0, 0, 0)", "odds(0, 0, 0, 1)");
    }

    private static void mean() {
        Edge.of(19, "MEAN; part likewise. ");
        Run r = with(5, 0).does("wearer(0, 0, 99)").is("mean(0, 0)", 33).is("mean(0, 1)", 2).is("mean(60, 0)", 33);
        r.is("mean(60, 1)", 2).does("mend(5, 0)").is("mean(60, 0)", 0).is("mean(60, 1)", 1);
        Edge.of(19, "NO.");
        all(r, Edge.NO, "mean(-1, 0)", "mean(61, 0)", "mean(0, -1)", "mean(0, 2)", "mean(MIN, 0)", "mean(MAX, 0)",
            "mean(0, MIN)", "mean(0, MAX)");
        all(with(0, 0), Edge.NO, "mean(0, 0)", "mean(0, 1)");
    }

    private static void plan() {
        Edge.of(20, "A row comes to the PLAN: how many there are (what -1: it is empty then, 0, whatever the rest is). ");
        Run r = with(6, 8).is("plan(0, 0)", 1).is("plan(1, 5)", 2).is("plan(2, 7)", 3).is("plan(3, 5)", 4);
        r.is("plan(-1, 0)", 0).is("count(5)", 0).is("plan(-1, -1)", 0).is("plan(-1, MAX)", 0).is("plan(-1, MIN)", 0);
        Edge.of(20, "NONE: what (0 .. 3), wearer (by 1, 3), saying (by 2; by 0 n does not matter); FULL: 10.");
        all(r, Edge.NONE, "plan(-2, 0)", "plan(4, 0)", "plan(MIN, 0)", "plan(MAX, 0)", "plan(1, -1)", "plan(1, 6)",
            "plan(3, -1)", "plan(3, 6)", "plan(2, -1)", "plan(2, 8)", "plan(1, MIN)", "plan(3, MAX)", "plan(2, MIN)",
            "plan(2, MAX)", "plan(1, 7)", "plan(3, 7)");
        r.is("count(5)", 0).is("plan(0, -1)", 1).is("plan(0, 6)", 2).is("plan(0, 8)", 3).is("plan(0, MIN)", 4);
        r.is("plan(0, MAX)", 5).is("plan(1, 0)", 6).is("plan(2, 6)", 7).is("plan(3, 0)", 8).is("plan(2, 0)", 9);
        r.is("plan(0, 99)", 10);
        all(r, Edge.FULL, "plan(0, 0)", "plan(1, 0)", "plan(2, 0)", "plan(3, 0)");
        all(r, Edge.NONE, "plan(4, 0)", "plan(1, 6)", "plan(2, 8)", "plan(3, 6)");
        r.is("count(5)", 10).is("ends(0)", 0).is("ends(1)", 99).is("plan(-1, 5)", 0).is("plan(0, 0)", 1);
        all(with(2, 1), Edge.NONE, "plan(2, 1)", "plan(1, 2)", "plan(3, 2)");
        all(with(1, 2), 1, "plan(2, 1)");
        all(with(0, 0), Edge.NONE, "plan(1, 0)", "plan(2, 0)", "plan(3, 0)");
    }

    private static void ends() {
        Edge.of(21, "ENDS: what 0 HURT, 1 COVER. ");
        Run r = with(1, 0).does("saying(9, 1)", "aim(0, 0)", "plan(0, 0)").is("ends(0)", 9).is("ends(1)", 0);
        r.does("plan(1, 0)").is("ends(0)", 9).is("ends(1)", 99);
        for (int i = 3; i <= 10; i++) {
            r.does("plan(0, 0)");
        }
        r.is("ends(0)", 9).is("ends(1)", 99 - 24).does("plan(-1, 0)").is("ends(0)", 0).is("ends(1)", 0);
        Edge.of(21, "NONE.");
        all(r, Edge.NONE, "ends(-1)", "ends(2)", "ends(MIN)", "ends(MAX)");
    }

    private static void book() {
        Edge.of(22, "A row comes to the BOOK: how many there are (wearer -1: it is empty then, 0, whatever the rest is). ");
        Run r = with(6, 0).is("book(0, 0)", 1).is("book(5, 99)", 2).is("book(-1, 0)", 0).is("count(6)", 0);
        r.is("book(-1, -1)", 0).is("book(-1, 100)", 0).is("book(-1, MIN)", 0).is("book(-1, MAX)", 0);
        Edge.of(22, "NONE; BAD: cover; FULL: 8.");
        all(r, Edge.NONE, "book(-2, 0)", "book(6, 0)", "book(6, 100)", "book(MIN, 0)", "book(MAX, 0)");
        all(r, Edge.BAD, "book(5, -1)", "book(5, 100)", "book(5, MIN)", "book(5, MAX)");
        r.is("count(6)", 0);
        for (int i = 1; i <= 8; i++) {
            r.is("book(0, 0)", i);
        }
        r.is("book(0, 0)", Edge.FULL).is("book(6, 0)", Edge.NONE).is("book(0, 100)", Edge.BAD).is("count(6)", 8);
        r.is("book(-1, 0)", 0).is("book(0, 0)", 1).is("book(0, 0)", 2);
        all(with(0, 0), Edge.NONE, "book(0, 0)");
    }

    private static void looked() {
        Edge.of(23, "LOOKED at; -5.");
        Run r = with(6, 0).is("looked()", Edge.UNMET).does("book(5, 0)", "book(0, 0)").is("looked()", Edge.UNMET);
        r.does("mend(0, 1)").is("looked()", 1).does("mend(5, 99)").is("looked()", 0).does("mend(5, 0)", "mend(0, 0)");
        r.is("looked()", Edge.UNMET).does("book(-1, 0)").is("looked()", Edge.UNMET);
    }

    private static void judge() {
        Edge.of(24, "JUDGED from place i of a TAPE on. ");
        Run r = with(2, 0).does("tape(5, 0, 4)", "item(5, 1, 1)", "tape(0, 0, 1)").is("judge(5, 0)", 1).is("judge(5, 1)", 0);
        r.is("judge(5, 2)", Edge.UNMET).is("judge(5, 3)", 101).is("judge(5, 4)", 100).is("judge(5, -1)", 100);
        r.is("judge(0, 0)", 101).is("judge(1, 0)", 100).is("judge(5, MIN)", 100).is("judge(5, MAX)", 100);
        Edge.of(24, "NONE: tape; CAST: it is no row of bytes.");
        all(r, Edge.NONE, "judge(-1, 0)", "judge(6, 0)", "judge(MIN, -1)", "judge(MAX, -1)");
        for (int sort = 1; sort <= 4; sort++) {
            r.does("tape(3, " + sort + ", 2)").is("judge(3, 0)", Edge.CAST).is("judge(3, -1)", Edge.CAST);
            r.is("judge(3, 60)", Edge.CAST).does("tape(3, " + sort + ", 0)").is("judge(3, 0)", Edge.CAST);
        }
        r.does("tape(3, -1, 0)").is("judge(3, 0)", 100).does("tape(3, 0, 2)").is("judge(3, 0)", Edge.UNMET);
    }

    private static void image() {
        Edge.of(25, "THE IMAGE is taken: how many WEARERS there are.");
        new Run().is("image()", 0).is("undo()", 0);
        for (int p = 1; p <= 6; p++) {
            with(p, 0).is("image()", p).is("count(0)", p).is("image()", p);
        }
        with(2, 0).is("image()", 2).does("wearer(0, 0, 0)").is("image()", 3).does("wearer(0, 0, 0)").is("undo()", 3);
    }

    private static void undo() {
        Edge.of(26, "All is as THE IMAGE: how many WEARERS. ");
        Run r = with(6, 8).is("image()", 6).is("undo()", 6).does("pass(60)", "mend(5, 9)").is("undo()", 6).is("told(0)", 0);
        r.is("of(5, 2)", 0).does("pass(1)").is("undo()", 6).is("told(0)", 0);
        r = new Run().is("image()", 0).does("wearer(0, 0, 0)", "saying(0, 1)").is("undo()", 0).is("count(0)", 0);
        r.is("count(1)", 0).is("wearer(0, 0, 7)", 0).is("undo()", 0).is("undo()", 0).is("of(0, 0)", Edge.NO_NUMBER);
        // DAY 9999, and back
        r = new Run().is("image()", 0).days(9999).is("pass(1)", Edge.STATE).is("undo()", 0).is("pass(60)", 60);
        // which CITY holds: none, or one that has been; its number stays, and how many there are
        r = with(1, 1).does("image()").city("firm 9 p=0;rub 9", 0).is("undo()", 1).is("of(0, 10)", 0).is("told(1)", 3);
        r.city("rub 8", 1).does("image()");
        for (int c = 2; c < 6; c++) {
            r.city("firm 7 p=0", c).is("of(0, 10)", 7).is("undo()", 1).is("of(0, 10)", 0).is("told(1)", 8);
        }
        r.is("count(2)", 6).city("rub 1", Edge.FULL).is("told(1)", 8).is("undo()", 1).is("count(7)", 5);
        Edge.of(26, "STATE: there is none.");
        new Run().is("undo()", Edge.STATE).is("image()", 0).is("undo()", 0);
        with(3, 3).does("mend(0, 9)", "pass(3)").is("undo()", Edge.STATE).is("of(0, 2)", 9).is("told(0)", 3);
    }

    private static void act() {
        Edge.of(27, "An ACT (0 nods, 1 knocks, 2 tells) of a WEARER with x. ");
        Run r = with(5, 0).does("wearer(0, 9, 0)").is("act(5, 0, 1)", 6).is("act(5, 1, 1)", -3).is("act(5, 2, 1)", -6);
        r.is("act(5, 0, 0)", 5).is("act(0, 0, MIN)", Integer.MIN_VALUE).is("act(0, 0, MAX)", Integer.MAX_VALUE);
        r.is("act(1, 0, MAX)", Integer.MIN_VALUE).is("act(5, 0, -5)", 0).is("count(8)", 1).is("trace(0)", 10);
        Edge.of(27, "0, and no TRACE then: no such WEARER, act.");
        String[] none = {"act(-1, 0, 9)", "act(6, 0, 9)", "act(0, -1, 9)", "act(0, 3, 9)", "act(MIN, 0, 9)", "act(MAX, 0, 9)",
            "act(0, MIN, 9)", "act(0, MAX, 9)", "act(6, 3, 9)"};
        for (String call : none) {
            r.is("act(0, 2, 9)", 18).is("count(8)", 3).is(call, 0).is("count(8)", 0).is("trace(0)", Edge.NONE);
            r.is("trace(2)", Edge.NONE);
        }
        with(1, 0).is("act(1, 0, 9)", 0).is("act(0, 0, 9)", 9);
    }

    private static void trace() {
        Edge.of(28, "THE TRACE's i-th body. ");
        Run r = with(1, 0).does("act(0, 2, 9)").is("trace(0)", 12).is("trace(1)", 11).is("trace(2)", 10);
        Edge.of(28, "NONE.");
        all(r, Edge.NONE, "trace(3)", "trace(-1)", "trace(19)", "trace(20)", "trace(21)", "trace(MIN)", "trace(MAX)");
        r.does("act(0, 0, 9)").is("trace(0)", 10);
        all(r, Edge.NONE, "trace(1)", "trace(2)");
        all(new Run(), Edge.NONE, "trace(0)", "trace(-1)");
    }

    private static void taken() {
        Edge.of(29, "A WEARER taken for one of KIND k (0 .. 6), or one under that: its KIND. ");
        Run r = new Run().does("wearer(6, 0, 0)", "wearer(5, 0, 0)", "wearer(4, 0, 0)", "wearer(0, 0, 0)");
        r.is("taken(0, 0)", 6).is("taken(0, 3)", 6).is("taken(0, 6)", 6).is("taken(1, 0)", 5).is("taken(1, 2)", 5);
        r.is("taken(1, 5)", 5).is("taken(2, 0)", 4).is("taken(2, 1)", 4).is("taken(2, 4)", 4).is("taken(3, 0)", 0);
        Edge.of(29, "BAD: k; NOTHING: no such WEARER; CAST.");
        all(r, Edge.BAD, "taken(0, -1)", "taken(0, 7)", "taken(0, MIN)", "taken(0, MAX)", "taken(4, 7)", "taken(-1, -1)");
        all(r, Edge.NOTHING, "taken(-1, 0)", "taken(4, 0)", "taken(6, 6)", "taken(MIN, 0)", "taken(MAX, 0)");
        all(r, Edge.CAST, "taken(0, 1)", "taken(0, 2)", "taken(0, 4)", "taken(0, 5)", "taken(1, 1)", "taken(1, 3)",
            "taken(1, 4)", "taken(1, 6)", "taken(2, 2)", "taken(2, 3)", "taken(2, 5)", "taken(2, 6)", "taken(3, 1)",
            "taken(3, 2)", "taken(3, 3)", "taken(3, 4)", "taken(3, 5)", "taken(3, 6)");
    }

    private static void count() {
        Edge.of(30, "How many: 0 WEARERS, 1 SAYINGS, 2 CITIES, 3 SEEN, 4 SORES, 5 of the PLAN, 6 of the BOOK, 7 bytes of THE "
            + "TEXT, 8 bodies that ran in the latest act() (all, kept or not). ");
        Run r = with(5, 8).does("wearer(6, 0, 0)");
        for (int i = 0; i < 6; i++) {
            r.is("count(2)", i).city("rub 1");
        }
        for (int i = 0; i < 11; i++) {
            r.does("see(0, 0, 0)", "ache(0, 0, true)", "plan(0, 0)", "book(0, 0)");
        }
        r.text("x".repeat(101)).does("act(5, 2, 3)");
        int[] full = {6, 8, 6, 5, 5, 10, 8, 100, 12};
        for (int what = 0; what < full.length; what++) {
            r.is("count(" + what + ")", full[what]);
        }
        Edge.of(30, "BAD.");
        all(r, Edge.BAD, "count(-1)", "count(9)", "count(MIN)", "count(MAX)");
    }

    private static void tape() {
        Edge.of(31, "A TAPE becomes a row of n (0 .. 60) of a sort, all 0, or holds nothing (sort -1: n does not matter): 1. ");
        Run r = new Run();
        for (int sort = 0; sort <= 4; sort++) {
            r.is("tape(5, " + sort + ", 60)", 1).is("item(5, 0, 1)", 1).is("item(5, 59, 1)", 1).is("item(5, 60, 1)", Edge.PLACE);
            r.is("tape(5, " + sort + ", 60)", 1).is("read(5, 0)", 0).is("read(5, 59)", 0).is("read(5, 60)", Edge.NO);
            r.is("tape(5, " + sort + ", 0)", 1).is("read(5, 0)", Edge.NO).is("item(5, 0, 1)", Edge.PLACE);
            r.is("tape(5, " + sort + ", 1)", 1).is("read(5, 0)", 0).is("read(5, 1)", Edge.NO);
        }
        String[] sizes = {"0", "60", "61", "-1", "MIN", "MAX"};
        for (String n : sizes) {
            r.is("tape(5, 0, 1)", 1).is("tape(5, -1, " + n + ")", 1).is("item(5, 0, 0)", Edge.NOTHING);
        }
        Edge.of(31, "NONE: tape; BAD: sort, n above 60; SIZE.");
        r.does("tape(5, 2, 1)", "item(5, 0, 77)");
        all(r, Edge.NONE, "tape(-1, 0, 0)", "tape(6, 0, 0)", "tape(MIN, 0, 0)", "tape(MAX, 0, 0)", "tape(6, -1, 0)",
            "tape(6, 5, 61)", "tape(6, 0, -1)");
        all(r, Edge.BAD, "tape(5, -2, 0)", "tape(5, 5, 0)", "tape(5, 0, 61)", "tape(5, 4, MAX)", "tape(5, MIN, 0)",
            "tape(5, MAX, 0)", "tape(5, 5, -1)", "tape(5, -2, -1)");
        all(r, Edge.SIZE, "tape(5, 0, -1)", "tape(5, 4, -1)", "tape(5, 2, MIN)");
        r.is("read(5, 0)", 77).is("read(5, 1)", Edge.NO);
    }

    private static void item() {
        Edge.of(32, "Item i of a TAPE becomes v (its lowest bits, as many as an item has; booleans: whether v is not 0): 1. ");
        long[][] cut = {{0, 127, 127}, {0, 128, -128}, {0, 255, -1}, {0, 256, 0}, {0, -128, -128}, {0, -129, 127},
            {1, 32767, 32767}, {1, 32768, -32768}, {1, 65535, -1}, {1, 65536, 0}, {1, -32769, 32767},
            {2, 2147483647L, 2147483647L}, {2, 2147483648L, -2147483648L}, {2, 4294967296L, 0}, {2, -2147483649L, 2147483647L},
            {3, 4294967296L, 4294967296L}, {4, 0, 0}, {4, 1, 1}, {4, 2, 1}, {4, -1, 1}, {4, 4294967296L, 1}};
        Run r = new Run();
        for (long[] c : cut) {
            r.does("tape(5, " + c[0] + ", 3)").is("item(5, 2, " + c[1] + ")", 1).is("read(5, 2)", c[2]).is("read(5, 1)", 0);
        }
        r.does("tape(5, 3, 60)").is("item(5, 59, MAX)", 1).is("read(5, 59)", Long.MAX_VALUE).is("item(5, 0, MIN)", 1);
        r.is("read(5, 0)", Long.MIN_VALUE);
        Edge.of(32, "NONE; NOTHING; PLACE.");
        all(r, Edge.NONE, "item(-1, 0, 0)", "item(6, 0, 0)", "item(MIN, -1, 0)", "item(MAX, -1, 0)");
        all(r, Edge.NOTHING, "item(0, 0, 0)", "item(4, -1, 0)", "item(4, 60, 0)");
        all(r, Edge.PLACE, "item(5, -1, 0)", "item(5, 60, 0)", "item(5, MIN, 0)", "item(5, MAX, 0)");
        r.does("tape(5, 0, 0)").is("item(5, 0, 0)", Edge.PLACE).does("tape(5, -1, 0)").is("item(5, 0, 0)", Edge.NOTHING);
    }

    private static void read() {
        Edge.of(33, "Item i of a TAPE. ");
        Run r = new Run().does("tape(0, 3, 60)", "item(0, 0, 5)", "item(0, 59, 6)", "tape(5, 0, 1)", "item(5, 0, -1)");
        r.is("read(0, 0)", 5).is("read(0, 59)", 6).is("read(0, 1)", 0).is("read(0, 58)", 0).is("read(5, 0)", -1);
        Edge.of(33, "NO: no such TAPE, nothing there, no such place.");
        all(r, Edge.NO, "read(-1, 0)", "read(6, 0)", "read(MIN, 0)", "read(MAX, 0)", "read(1, 0)", "read(4, -1)",
            "read(0, -1)", "read(0, 60)", "read(0, MIN)", "read(0, MAX)", "read(5, 1)");
        r.does("tape(5, 0, 0)").is("read(5, 0)", Edge.NO).does("tape(5, -1, 0)").is("read(5, 0)", Edge.NO);
    }

    private static void holds(Run r, int tape, long... items) {
        for (int i = 0; i < items.length; i++) {
            r.is("read(" + tape + ", " + i + ")", items[i]);
        }
        r.is("read(" + tape + ", " + items.length + ")", Edge.NO);
    }

    /** Tape 0: ints 1 .. 5; tape 1: ints 6 .. 8; tape 2: three shorts. */
    private static Run threeTapes() {
        Run r = new Run().does("tape(0, 2, 5)", "tape(1, 2, 3)", "tape(2, 1, 3)");
        for (int i = 0; i < 8; i++) {
            r.does("item(" + i / 5 + ", " + i % 5 + ", " + (i + 1) + ")");
        }
        return r;
    }

    private static void shift() {
        Edge.of(34, "n items of a TAPE from i on come to another one (or the same) from j on, as they all were before: n. ");
        Run r = threeTapes().is("shift(0, 0, 1, 0, 3)", 3).is("shift(0, 4, 1, 2, 1)", 1);
        holds(r, 1, 1, 2, 5);
        holds(r, 0, 1, 2, 3, 4, 5);
        r = threeTapes().is("shift(0, 0, 0, 1, 4)", 4);
        holds(r, 0, 1, 1, 2, 3, 4);
        r = threeTapes().is("shift(0, 1, 0, 0, 4)", 4);
        holds(r, 0, 2, 3, 4, 5, 5);
        r = threeTapes().is("shift(0, 0, 0, 2, 3)", 3).is("shift(0, 2, 0, 1, 3)", 3);
        holds(r, 0, 1, 1, 2, 3, 3);
        r = threeTapes().is("shift(0, 0, 0, 0, 5)", 5).is("shift(0, 5, 0, 5, 0)", 0).is("shift(0, 0, 1, 3, 0)", 0);
        r.is("shift(0, 5, 1, 0, 0)", 0).is("shift(0, 2, 0, 4, 0)", 0).is("shift(1, 3, 1, 0, 0)", 0);
        holds(r, 0, 1, 2, 3, 4, 5);
        holds(r, 1, 6, 7, 8);
        r = new Run().does("tape(4, 3, 60)", "tape(5, 3, 60)", "item(4, 59, 8)", "item(4, 0, 9)").is("shift(4, 0, 5, 0, 60)", 60);
        r.is("read(5, 59)", 8).is("read(5, 0)", 9).is("shift(5, 0, 5, 1, 59)", 59).is("read(5, 1)", 9).is("read(5, 59)", 0);
        r.does("tape(0, 0, 0)", "tape(1, 0, 0)").is("shift(0, 0, 1, 0, 0)", 0).is("shift(0, 0, 0, 0, 0)", 0);
    }

    private static void shiftPlaces() {
        Edge.of(34, "NONE: tapes; NOTHING; CAST: of unlike sorts; PLACE: n, i or j is below 0, or beyond either's end.");
        Run r = threeTapes();
        all(r, Edge.NONE, "shift(-1, 0, 0, 0, 0)", "shift(6, 0, 0, 0, 0)", "shift(0, 0, -1, 0, 0)", "shift(0, 0, 6, 0, 0)",
            "shift(MIN, 0, 0, 0, 0)", "shift(0, 0, MAX, 0, 0)", "shift(6, 0, 5, -1, 0)", "shift(5, -1, 6, 0, 0)");
        all(r, Edge.NOTHING, "shift(5, 0, 0, 0, 0)", "shift(0, 0, 5, 0, 0)", "shift(5, 0, 5, 0, 0)", "shift(0, -1, 5, 0, 0)",
            "shift(5, 0, 2, 0, -1)");
        all(r, Edge.CAST, "shift(0, 0, 2, 0, 0)", "shift(2, 0, 0, 0, 0)", "shift(2, -1, 0, 0, 0)", "shift(0, 0, 2, 9, 9)");
        all(r, Edge.PLACE, "shift(0, 0, 1, 0, -1)", "shift(0, -1, 1, 0, 0)", "shift(0, 0, 1, -1, 0)", "shift(0, -1, 1, 0, 1)",
            "shift(0, 6, 1, 0, 0)", "shift(0, 0, 1, 4, 0)", "shift(0, 5, 1, 0, 1)", "shift(0, 0, 1, 3, 1)",
            "shift(0, 3, 1, 0, 3)", "shift(0, 0, 1, 1, 3)", "shift(0, 0, 1, 0, 4)", "shift(1, 0, 0, 0, 4)",
            "shift(0, 0, 0, 1, 5)", "shift(0, 1, 0, 0, 5)", "shift(0, 0, 0, 0, 6)", "shift(0, 0, 1, 0, MAX)",
            "shift(0, 1, 1, 1, MAX)", "shift(0, MAX, 1, 0, 1)", "shift(0, 0, 1, MAX, 1)", "shift(0, MAX, 1, MAX, MAX)",
            "shift(0, MIN, 1, 0, 1)", "shift(0, 0, 1, MIN, 1)", "shift(0, 0, 1, 0, MIN)", "shift(0, MIN, 0, MIN, MIN)",
            "shift(0, -1, 0, -1, 2)", "shift(0, 2, 1, 2, -1)");
        holds(r, 0, 1, 2, 3, 4, 5);
        holds(r, 1, 6, 7, 8);
    }
}
