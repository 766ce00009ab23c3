/** Counts and prints the answers that are not as due; and feeds texts. */
final class Due {
    private int wrong;
    private int asked;

    void is(String call, long got, long want) {
        asked++;
        if (got != want) {
            wrong++;
            System.out.println(call + " answered " + got + ", due is " + want);
        }
    }

    void end(String test) {
        System.out.println(test + ": " + asked + " answers, " + wrong + " not as due");
        if (wrong != 0) {
            System.exit(1);
        }
    }

    static int tell(WishClerk x, String text) {
        for (int i = 0; i < text.length(); i++) {
            x.feed(text.charAt(i));
        }
        return x.text();
    }

    static WishClerk told(String text) {
        WishClerk x = new WishClerk();
        if (tell(x, text) < 0) {
            throw new IllegalStateException("the test's own text is refused: " + text);
        }
        return x;
    }
}
