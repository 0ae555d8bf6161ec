/** Counts and prints the calls whose answer is not the one that is due. */
final class Due {
    static final int UNMET = -5, NO_NUMBER = -10001;
    static final long NO = Long.MIN_VALUE;
    private static int asked = 0;
    private static int wrong = 0;

    private Due() {
    }

    static void due(int promise, String call, long got, long want) {
        asked++;
        if (got != want) {
            wrong++;
            System.out.println("promise " + promise + ": " + call + " answered " + got + ", due is " + want);
        }
    }

    /** Ends the test: with exit code 1 if an answer was wrong. */
    static void end() {
        System.out.println(asked + " answers asked, " + wrong + " wrong");
        if (wrong != 0 || asked == 0) {
            System.exit(1);
        }
    }

    static void feed(BowlerDents x, String text) {
        for (int i = 0; i < text.length(); i++) {
            x.feed(text.charAt(i));
        }
    }

    /** Feeds a text and makes it a city. */
    static int city(BowlerDents x, String text) {
        feed(x, text);
        return x.city();
    }

    /** An object with these wearers: kind, v, cover; kind, v, cover; .. */
    static BowlerDents with(int... wearers) {
        BowlerDents x = new BowlerDents();
        for (int i = 0; i < wearers.length; i += 3) {
            x.wearer(wearers[i], wearers[i + 1], wearers[i + 2]);
        }
        return x;
    }

    /** A saying that is at a wearer. */
    static int saying(BowlerDents x, int hard, int every, int wearer) {
        int saying = x.saying(hard, every);
        x.aim(saying, wearer);
        return saying;
    }

    /** Lets so many days go, 60 a call. */
    static void pass(BowlerDents x, int days) {
        for (int left = days; left > 0; left -= 60) {
            x.pass(Math.min(left, 60));
        }
    }
}
