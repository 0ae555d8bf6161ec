/** Promises 15 to 23: what is told by hand, odds, means, plans, books. */
public final class HandTest {
    public static void main(String[] args) {
        see();
        ache();
        can();
        odds();
        mean();
        plan();
        ends();
        book();
        looked();
        Due.end();
    }

    private static void see() {
        BowlerDents x = Due.with(0, 0, 50);
        Due.due(15, "first", x.see(0, 0, 0), 1);
        Due.due(15, "edges", x.see(0, 12, 99), 2);
        Due.due(15, "wearer 1", x.see(1, 13, 0), -1);
        Due.due(15, "wearer -2", x.see(-2, 0, 0), -1);
        Due.due(15, "n -1", x.see(0, -1, 0), -2);
        Due.due(15, "n 13", x.see(0, 13, 0), -2);
        Due.due(15, "cover -1", x.see(0, 0, -1), -2);
        Due.due(15, "cover 100", x.see(0, 0, 100), -2);
        Due.due(15, "two stand", x.count(3), 2);
        x.see(0, 1, 1);
        x.see(0, 1, 1);
        Due.due(15, "fifth", x.see(0, 1, 1), 5);
        Due.due(15, "FULL", x.see(0, 1, 1), -4);
        Due.due(15, "BAD before FULL", x.see(0, 13, 1), -2);
        Due.due(15, "none then", x.see(-1, 99, -99), 0);
        Due.due(15, "none stand", x.count(3), 0);
        Due.due(15, "first again", x.see(0, 0, 0), 1);
        Due.due(15, "sores are others", x.count(4), 0);
    }

    private static void ache() {
        BowlerDents x = Due.with(0, 0, 50);
        Due.due(16, "first", x.ache(0, 0, true), 1);
        Due.due(16, "edge", x.ache(0, 12, false), 2);
        Due.due(16, "wearer 1", x.ache(1, 13, true), -1);
        Due.due(16, "wearer -2", x.ache(-2, 0, true), -1);
        Due.due(16, "n -1", x.ache(0, -1, true), -2);
        Due.due(16, "n 13", x.ache(0, 13, true), -2);
        Due.due(16, "two stand", x.count(4), 2);
        x.ache(0, 1, true);
        x.ache(0, 1, true);
        Due.due(16, "fifth", x.ache(0, 1, true), 5);
        Due.due(16, "FULL", x.ache(0, 1, true), -4);
        Due.due(16, "BAD before FULL", x.ache(0, 13, true), -2);
        Due.due(16, "none then", x.ache(-1, 99, true), 0);
        Due.due(16, "none stand", x.count(4), 0);
        Due.due(16, "seen are others", x.count(3), 0);
    }

    private static void can() {
        BowlerDents x = Due.with(1, 9, 0, 0, 0, 0);
        Due.saying(x, 5, 1, 0);
        Due.due(17, "no rows", x.can(0, 0), 10);
        Due.due(17, "no rows: least", x.can(0, 1), 0);
        x.ache(0, 1, true);
        Due.due(17, "v below 5", x.can(0, 0), 5);
        Due.due(17, "v below 5: least", x.can(0, 1), 0);
        x.ache(-1, 0, true);
        x.ache(0, 12, false);
        Due.due(17, "v from 5 on", x.can(0, 0), 5);
        Due.due(17, "v from 5 on: least", x.can(0, 1), 5);
        x.ache(1, 12, false);
        Due.due(17, "another's row holds", x.can(0, 1), 5);
        Due.due(17, "the other may be any", x.can(1, 0), 10);
        x.ache(1, 12, true);
        Due.due(17, "another's row fails", x.can(0, 0), 0);
        Due.due(17, "another's row fails: least", x.can(0, 1), Due.UNMET);
        x.ache(-1, 0, true);
        x.ache(0, 0, true);
        Due.due(17, "no more than now at once", x.can(0, 0), 0);
        Due.due(17, "what 2", x.can(0, 2), -1);
        Due.due(17, "what -1", x.can(0, -1), -1);
        Due.due(17, "wearer 2", x.can(2, 0), -1);
        Due.due(17, "wearer -1", x.can(-1, 0), -1);
        Due.due(17, "nothing changed", x.of(0, 1), 9);
        x.ache(-1, 0, true);
        x.pass(1);
        x.ache(0, 2, false);
        x.mend(0, 0);
        Due.due(17, "from the day that is now", x.can(0, 1), 5);
        x.ache(-1, 0, true);
        x.aim(0, -1);
        Due.saying(x, 5, 3, 0);
        x.ache(0, 2, true);
        Due.due(17, "it strikes on day 3", x.can(0, 0), 0);
        x.ache(-1, 0, true);
        x.ache(0, 3, false);
        Due.due(17, "it has struck on day 3", x.can(0, 0), 5);
    }

    private static void odds() {
        BowlerDents x = Due.with(0, 0, 0, 0, 0, 0, 0, 0, 0);
        Due.saying(x, 5, 1, 2);
        Due.due(18, "above", x.odds(0, 1, 1, 0), 1);
        Due.due(18, "below", x.odds(0, 1, 1, 1), 3);
        Due.due(18, "no days: above", x.odds(0, 1, 0, 0), 0);
        Due.due(18, "no days: below", x.odds(0, 1, 0, 1), 1);
        Due.saying(x, 5, 1, 1);
        Due.due(18, "sure: above", x.odds(0, 1, 20, 0), 1);
        Due.due(18, "sure: below", x.odds(0, 1, 20, 1), 1);
        Due.due(18, "nothing changed", x.phrase(0, 2) + x.told(0), 2);
        Due.due(18, "saying", x.odds(2, 1, 1, 0), Due.NO);
        Due.due(18, "saying -1", x.odds(-1, 1, 1, 0), Due.NO);
        Due.due(18, "wearer", x.odds(0, 3, 1, 0), Due.NO);
        Due.due(18, "wearer -1", x.odds(0, -1, 1, 0), Due.NO);
        Due.due(18, "n 21", x.odds(0, 1, 21, 0), Due.NO);
        Due.due(18, "n -1", x.odds(0, 1, -1, 0), Due.NO);
        Due.due(18, "part 2", x.odds(0, 1, 1, 2), Due.NO);
        Due.due(18, "part -1", x.odds(0, 1, 1, -1), Due.NO);
        BowlerDents none = new BowlerDents();
        none.saying(1, 1);
        Due.due(18, "no wearers", none.odds(0, 0, 1, 0), Due.NO);

        // dents make an heir firmer: struck by both it is not hurt
        BowlerDents heir = Due.with(3, 0, 0, 0, 0, 0, 0, 0, 0, 0, 0, 0);
        Due.city(heir, "rub 0");
        for (int s = 0; s < 4; s++) {
            Due.saying(heir, 0, 1, 0);
        }
        Due.saying(heir, 0, 1, 1);
        Due.saying(heir, 1, 1, 0);
        Due.due(18, "all but one: above", heir.odds(4, 0, 1, 0), 3);
        Due.due(18, "all but one: below", heir.odds(4, 0, 1, 1), 4);
    }

    private static void mean() {
        BowlerDents x = new BowlerDents();
        Due.due(19, "no wearers", x.mean(0, 0), Due.NO);
        x = Due.with(0, 0, 10, 0, 0, 21);
        Due.due(19, "halves: above", x.mean(0, 0), 31);
        Due.due(19, "halves: below", x.mean(0, 1), 2);
        x.wearer(0, 0, 32);
        Due.due(19, "whole: above", x.mean(0, 0), 21);
        Due.due(19, "whole: below", x.mean(0, 1), 1);
        x.wearer(0, 0, 27);
        Due.due(19, "lowest terms: above", x.mean(0, 0), 45);
        Due.due(19, "lowest terms: below", x.mean(0, 1), 2);
        Due.saying(x, 0, 1, 0);
        Due.due(19, "two days: above", x.mean(2, 0), 21);
        Due.due(19, "two days: below", x.mean(2, 1), 1);
        Due.due(19, "60 days: above", x.mean(60, 0), 20);
        Due.due(19, "n 61", x.mean(61, 0), Due.NO);
        Due.due(19, "n -1", x.mean(-1, 0), Due.NO);
        Due.due(19, "part 2", x.mean(0, 2), Due.NO);
        Due.due(19, "part -1", x.mean(0, -1), Due.NO);
        BowlerDents bare = Due.with(0, 0, 0, 0, 0, 0);
        Due.due(19, "0: above", bare.mean(0, 0), 0);
        Due.due(19, "0: below", bare.mean(0, 1), 1);
        BowlerDents six = Due.with(0, 0, 1, 0, 0, 1, 0, 0, 1, 0, 0, 1, 0, 0, 0, 0, 0, 0);
        Due.due(19, "4 by 6: above", six.mean(0, 0), 2);
        Due.due(19, "4 by 6: below", six.mean(0, 1), 3);
    }

    private static void plan() {
        BowlerDents x = Due.with(0, 0, 10);
        x.saying(1, 1);
        x.saying(1, 1);
        Due.due(20, "what 4", x.plan(4, 0), -1);
        Due.due(20, "what -2", x.plan(-2, 0), -1);
        Due.due(20, "wearer 1 by 1", x.plan(1, 1), -1);
        Due.due(20, "wearer -1 by 1", x.plan(1, -1), -1);
        Due.due(20, "wearer 1 by 3", x.plan(3, 1), -1);
        Due.due(20, "saying 2", x.plan(2, 2), -1);
        Due.due(20, "saying -1", x.plan(2, -1), -1);
        Due.due(20, "a day, whatever n is", x.plan(0, -77), 1);
        Due.due(20, "saying 1", x.plan(2, 1), 2);
        Due.due(20, "wearer by 1", x.plan(1, 0), 3);
        Due.due(20, "wearer by 3", x.plan(3, 0), 4);
        for (int i = 5; i <= 10; i++) {
            Due.due(20, "row " + i, x.plan(0, i), i);
        }
        Due.due(20, "FULL", x.plan(0, 0), -4);
        Due.due(20, "NONE before FULL", x.plan(1, 1), -1);
        Due.due(20, "ten stand", x.count(5), 10);
        Due.due(20, "empty then", x.plan(-1, 55), 0);
        Due.due(20, "none stand", x.count(5), 0);
    }

    private static void ends() {
        BowlerDents x = Due.with(0, 0, 10, 0, 0, 50);
        Due.saying(x, 20, 1, 0);
        x.pass(1);
        Due.due(21, "an empty plan: hurt", x.ends(0), 18);
        Due.due(21, "an empty plan: cover", x.ends(1), 57);
        x.plan(0, 0);
        Due.due(21, "a day: hurt", x.ends(0), 18 + 19);
        Due.due(21, "a day: cover", x.ends(1), 54);
        x.plan(1, 0);
        x.plan(0, 0);
        Due.due(21, "mended, and a day: hurt", x.ends(0), 18 + 19 + 1);
        Due.due(21, "mended, and a day: cover", x.ends(1), 96 + 50);
        x.plan(3, 0);
        Due.due(21, "healed: hurt", x.ends(0), 0);
        x.plan(2, 0);
        x.plan(0, 0);
        Due.due(21, "at none: hurt", x.ends(0), 0);
        Due.due(21, "at none: cover", x.ends(1), 146);
        x.plan(-1, 0);
        x.plan(2, 0);
        Due.due(21, "at none, not healed", x.ends(0), 18);
        x.plan(0, 0);
        Due.due(21, "at none, a day", x.ends(0), 18);
        Due.due(21, "at none, not worn", x.ends(1), 57);
        Due.due(21, "what 2", x.ends(2), -1);
        Due.due(21, "what -1", x.ends(-1), -1);
        Due.due(21, "nothing changed", x.told(2), 18);
        Due.due(21, "the saying is at it", x.phrase(0, 2), 0);
    }

    private static void book() {
        BowlerDents x = Due.with(0, 0, 10);
        Due.due(22, "first", x.book(0, 0), 1);
        Due.due(22, "edge", x.book(0, 99), 2);
        Due.due(22, "wearer 1", x.book(1, 100), -1);
        Due.due(22, "wearer -2", x.book(-2, 0), -1);
        Due.due(22, "cover -1", x.book(0, -1), -2);
        Due.due(22, "cover 100", x.book(0, 100), -2);
        for (int i = 3; i <= 8; i++) {
            Due.due(22, "row " + i, x.book(0, 10), i);
        }
        Due.due(22, "FULL", x.book(0, 10), -4);
        Due.due(22, "BAD before FULL", x.book(0, 100), -2);
        Due.due(22, "eight stand", x.count(6), 8);
        Due.due(22, "empty then", x.book(-1, 100), 0);
        Due.due(22, "none stand", x.count(6), 0);
    }

    private static void looked() {
        BowlerDents x = Due.with(0, 0, 10, 0, 0, 20);
        Due.due(23, "an empty book", x.looked(), Due.UNMET);
        x.book(1, 20);
        x.book(0, 10);
        Due.due(23, "all is so", x.looked(), Due.UNMET);
        x.book(0, 11);
        x.book(1, 21);
        Due.due(23, "the first that is otherwise", x.looked(), 2);
        x.mend(0, 11);
        Due.due(23, "as it is now", x.looked(), 1);
        x.mend(1, 0);
        Due.due(23, "row 0", x.looked(), 0);
    }
}
