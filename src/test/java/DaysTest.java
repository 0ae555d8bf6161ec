/** Promises 12 to 14: days that go, days that are asked, what is best. */
public final class DaysTest {
    public static void main(String[] args) {
        pass();
        strikes();
        caps();
        lastDay();
        on();
        mend();
        change();
        aim();
        bestRefused();
        full();
        Due.end();
    }

    private static void pass() {
        BowlerDents x = new BowlerDents();
        Due.due(12, "0 days", x.pass(0), 0);
        Due.due(12, "60 days", x.pass(60), 60);
        Due.due(12, "61 days", x.pass(61), -2);
        Due.due(12, "-1 days", x.pass(-1), -2);
        Due.due(12, "1 day", x.pass(1), 61);
    }

    private static void strikes() {
        BowlerDents x = Due.with(0, 0, 10, 0, 0, 99);
        Due.city(x, "rub 5");
        Due.saying(x, 2, 1, 0);
        Due.saying(x, 2, 1, 0);
        Due.saying(x, 19, 2, 1);
        x.pass(1);
        Due.due(12, "the second by how it is then", x.of(0, 4), 1);
        Due.due(12, "two dents", x.of(0, 3), 2);
        Due.due(12, "worn", x.of(0, 2), 0);
        Due.due(12, "kept off", x.of(1, 4), 0);
        Due.due(12, "dented all the same", x.of(1, 3), 1);
        Due.due(12, "worn all the same", x.of(1, 2), 94);
        x.pass(1);
        Due.due(12, "not on day 1", x.of(1, 3), 1);
        Due.due(12, "cover 0 at least", x.of(0, 2), 0);
        Due.due(12, "two bites of 2", x.of(0, 4), 5);

        BowlerDents seldom = Due.with(0, 0, 0);
        Due.saying(seldom, 1, 9, 0);
        seldom.pass(9);
        Due.due(12, "day 0 alone", seldom.of(0, 3), 1);
        seldom.pass(1);
        Due.due(12, "day 9 too", seldom.of(0, 3), 2);
    }

    private static void caps() {
        BowlerDents x = Due.with(0, 0, 0);
        Due.city(x, "weak 99 p=0");
        for (int s = 0; s < 8; s++) {
            Due.saying(x, 60, 1, 0);
        }
        x.pass(1);
        Due.due(12, "a bite is 99 at most", x.of(0, 4), 8 * 99);
        x.pass(11);
        Due.due(12, "before the cap", x.of(0, 4), 12 * 8 * 99);
        x.pass(1);
        Due.due(12, "hurt 9999 at most", x.of(0, 4), 9999);
        Due.due(3, "no more hurt", x.of(0, 5), Due.UNMET);
        Due.pass(x, 1236);
        Due.due(12, "dents before the cap", x.of(0, 3), 1249 * 8);
        x.pass(1);
        Due.due(12, "dents 9999 at most", x.of(0, 3), 9999);
    }

    private static void lastDay() {
        BowlerDents x = Due.with(0, 0, 0);
        Due.saying(x, 1, 1, 0);
        Due.pass(x, 9960);
        Due.due(12, "beyond the last", x.pass(40), -3);
        Due.due(12, "BAD before STATE", x.pass(61), -2);
        Due.due(12, "nothing changed", x.told(0), 9960);
        Due.due(12, "the last", x.pass(39), 9999);
        Due.due(12, "no day", x.pass(0), 9999);
        Due.due(12, "one more", x.pass(1), -3);
        x.plan(3, 0);
        x.plan(0, 0);
        Due.due(21, "a plan goes beyond", x.ends(0), 1);
        Due.due(13, "days beyond the last", x.on(60, 20), 9999);
        Due.due(13, "hurt is full", x.on(60, 30), 9999);
    }

    private static void on() {
        BowlerDents x = Due.with(0, 0, 50, 2, 0, 99);
        Due.saying(x, 60, 1, 0);
        Due.saying(x, 60, 2, 1);
        // bites of 0: 60 - 10, 60 - 9, 60 - 8; of 1: 60 - 9 (19 / 2) on days 0 and 2 (96 / 5 / 2)
        Due.due(13, "hurt of all", x.on(3, 0), 50 + 51 + 52 + 51 + 51);
        Due.due(13, "cover of 0", x.on(3, 10), 41);
        Due.due(13, "cover of 1", x.on(3, 11), 93);
        Due.due(13, "dents of 0", x.on(3, 20), 3);
        Due.due(13, "dents of 1", x.on(3, 21), 2);
        Due.due(13, "hurt of 0", x.on(3, 30), 153);
        Due.due(13, "hurt of 1", x.on(3, 31), 102);
        Due.due(13, "no days", x.on(0, 10), 50);
        Due.due(13, "60 days", x.on(60, 20), 60);
        Due.due(13, "nothing changed", x.told(0) + x.told(2) + x.of(0, 3), 0);
        BowlerDents clerk = Due.with(1, 7, 0, 6, 0, 0);
        clerk.row(1, 0, 9);
        Due.saying(clerk, 10, 1, 0);
        clerk.saying(1, 1);
        clerk.saying(1, 1);
        clerk.saying(1, 1);
        Due.saying(clerk, 10, 1, 1);
        Due.due(13, "a clerk's v", clerk.on(1, 30), 3);
        Due.due(13, "a told one's row", clerk.on(1, 31), 5);
        Due.city(clerk, "firm 2 d=0");
        Due.due(13, "by the city", clerk.on(1, 30), 1);
        clerk.pass(1);
        Due.due(13, "by the day", clerk.on(10, 30), 1 + 9 * 3 + 1);
        int[] noWhat = {-1, 1, 9, 12, 15, 16, 19, 22, 32, 40, -10, 100, Integer.MIN_VALUE, Integer.MAX_VALUE};
        for (int what : noWhat) {
            Due.due(13, "what " + what, x.on(3, what), -1);
        }
        Due.due(13, "n 61", x.on(61, 0), -2);
        Due.due(13, "n -1", x.on(-1, 10), -2);
        Due.due(13, "NONE before BAD", x.on(61, 1), -1);
        Due.due(13, "no wearers", new BowlerDents().on(60, 0), 0);
    }

    private static void mend() {
        BowlerDents x = Due.with(0, 0, 0, 0, 0, 0, 0, 0, 99);
        Due.due(14, "nobody is struck", x.best(12, 0), 0);
        Due.saying(x, 5, 1, 1);
        Due.due(14, "the one that is hurt", x.best(1, 0), 2);
        Due.saying(x, 15, 1, 2);
        // cover 99 less 8 times 3 keeps off 15 at the ninth strike, but not at the tenth
        Due.due(14, "one is kept by its cover", x.best(9, 0), 2);
        Due.due(14, "a day too many", x.best(10, 0), Due.UNMET);
        x.aim(1, 0);
        Due.due(14, "two", x.best(8, 0), 3);
        Due.saying(x, 60, 9, 0);
        Due.due(14, "no cover helps", x.best(1, 0), Due.UNMET);
        Due.due(14, "nothing changed", x.of(0, 2) + x.told(0), 0);
        Due.due(14, "no wearers", new BowlerDents().best(12, 0), 0);
    }

    private static void change() {
        BowlerDents x = Due.with(0, 0, 20, 0, 0, 60, 0, 0, 60);
        Due.due(14, "nobody is struck", x.best(20, 1), Due.UNMET);
        Due.saying(x, 30, 1, 0);
        Due.due(14, "the first of two", x.best(1, 1), 1);
        x.mend(2, 70);
        Due.due(14, "the better of two", x.best(1, 1), 2);
        Due.saying(x, 30, 1, 2);
        Due.due(14, "the one that is not struck", x.best(1, 1), 1);
        x.mend(0, 80);
        Due.due(14, "it is best as it is", x.best(1, 1), Due.UNMET);
        x.mend(1, 90);
        Due.due(14, "the two last", x.best(1, 1), 12);
        Due.due(14, "nothing changed", x.of(1, 2), 90);
        BowlerDents one = Due.with(0, 0, 20);
        Due.saying(one, 60, 1, 0);
        Due.due(14, "one alone", one.best(1, 1), Due.UNMET);
    }

    private static void aim() {
        BowlerDents x = new BowlerDents();
        x.saying(10, 1);
        Due.due(14, "no wearers", x.best(1, 10), Due.UNMET);
        x = Due.with(0, 0, 20, 0, 0, 40, 0, 0, 40);
        Due.saying(x, 10, 1, 0);
        Due.due(14, "the first of two", x.best(1, 10), 1);
        Due.saying(x, 20, 1, 1);
        Due.due(14, "the other wears that one", x.best(5, 10), 2);
        Due.due(14, "the other saying", x.best(5, 11), 1);
        x.aim(0, 1);
        Due.due(14, "it stays away from the other saying", x.best(5, 11), 2);
        Due.due(14, "nothing changed", x.phrase(1, 2), 1);
        BowlerDents clerks = Due.with(0, 0, 0, 1, 9, 0);
        Due.saying(clerks, 9, 1, 0);
        Due.due(14, "a clerk's v", clerks.best(20, 10), 1);
        BowlerDents safe = Due.with(0, 0, 99, 0, 0, 99);
        Due.saying(safe, 1, 1, 1);
        Due.due(14, "all alike", safe.best(20, 10), 0);
    }

    private static void bestRefused() {
        BowlerDents x = Due.with(0, 0, 20, 0, 0, 40);
        x.saying(1, 1);
        int[] noWhat = {-1, 2, 9, 11, 18, Integer.MIN_VALUE};
        for (int what : noWhat) {
            Due.due(14, "what " + what, x.best(1, what), -1);
        }
        Due.due(14, "NONE before BAD", x.best(0, 2), -1);
        Due.due(14, "mend of 0", x.best(0, 0), -2);
        Due.due(14, "mend of 13", x.best(13, 0), -2);
        Due.due(14, "mend of 12", x.best(12, 0), 0);
        Due.due(14, "change of 0", x.best(0, 1), -2);
        Due.due(14, "change of 21", x.best(21, 1), -2);
        Due.due(14, "change of 20", x.best(20, 1), Due.UNMET);
        Due.due(14, "aim of 0", x.best(0, 10), -2);
        Due.due(14, "aim of 21", x.best(21, 10), -2);
        Due.due(14, "aim of 20", x.best(20, 10), 1);
    }

    /** As many wearers and sayings as there can be. */
    private static void full() {
        BowlerDents x = Due.with(0, 0, 10, 0, 0, 20, 0, 0, 30, 0, 0, 40, 0, 0, 50, 0, 0, 60);
        for (int s = 0; s < 8; s++) {
            Due.saying(x, 13, s + 1, 5 - s % 6);
        }
        // guards 2, 4, 6, 8, 10, 12 by wearer; 5 and 4 are struck twice on day 0, by 57 and 47 the second time
        Due.due(14, "mend all", x.best(1, 0), 63);
        Due.due(13, "hurt of all", x.on(1, 0), 11 + 9 + 7 + 5 + 3 + 4 + 1 + 2);
        Due.due(14, "those struck twice have the most", x.best(1, 1), Due.UNMET);
        Due.due(14, "the firmest for the last", x.best(1, 17), 5);
        Due.due(11, "all strike", x.told(4), 255);
        Due.due(11, "cover of all", x.told(3), 210);
        Due.due(18, "odds: above", x.odds(7, 0, 1, 0), 1);
        // 210 less 8 times 3, by 6
        Due.due(19, "mean", x.mean(1, 0), 31);
        x.mend(5, 0);
        Due.due(14, "the two that gain most", x.best(1, 1), 35);
    }
}
