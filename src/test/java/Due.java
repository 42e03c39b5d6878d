/** Counts the answers that are not as due, and tells them. */
final class Due {
    private static int wrong = 0;
    private static int asked = 0;

    private Due() { }

    static void is(String call, long got, long want) {
        asked++;
        if (got == want) return;
        wrong++;
        if (wrong <= 50) System.out.println(call + " answered " + got + ", due is " + want);
    }

    static int wrong() {
        return wrong;
    }

    /** Feeds a whole text and makes it a WAY. */
    static int way(MilestoneMaids x, String text) {
        for (int i = 0; i < text.length(); i++) is("feed " + i + " of " + text, x.feed(text.charAt(i)), i + 1);
        return x.way();
    }

    static void end(String test) {
        System.out.println(test + ": " + asked + " answers, " + wrong + " not as due");
        if (wrong != 0) System.exit(1);
    }
}
