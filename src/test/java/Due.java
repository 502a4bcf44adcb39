/** Keeps the answers that are not as due, and ends a test with exit code 1 if there was one. */
final class Due {
    private final String test;
    private int asked = 0;
    private int wrong = 0;

    Due(String test) {
        this.test = test;
    }

    void is(String call, long got, long want) {
        asked++;
        if (got != want) {
            wrong++;
            System.out.println(test + ": " + call + " answered " + got + ", due is " + want);
        }
    }

    void holds(String what, boolean so) {
        is(what, so ? 1 : 0, 1);
    }

    void same(String when, String got, String want) {
        asked++;
        if (!got.equals(want)) {
            wrong++;
            System.out.println(test + ": " + when + ": " + got + ", due is " + want);
        }
    }

    void end() {
        System.out.println(test + ": " + asked + " answers, " + wrong + " of them wrong");
        if (wrong != 0 || asked == 0) {
            System.exit(1);
        }
    }

    /** A new object with these STONES. */
    static LuckyStolen with(String stones) {
        LuckyStolen x = new LuckyStolen();
        type(x, stones);
        return x;
    }

    static void type(LuckyStolen x, String stones) {
        for (int i = 0; i < stones.length(); i++) {
            x.type(stones.charAt(i));
        }
    }
}
