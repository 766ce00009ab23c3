/** Texts that the edges share. */
final class Texts {
    static final String ONES = "one dead;".repeat(8);
    static final String WISHES = "wish 0 0;".repeat(8);
    static final String CHAIN = "needs 0 1;needs 1 2;needs 2 3;needs 3 4;needs 4 5;needs 5 6;needs 6 7;";
    static final String RING = CHAIN + "needs 7 0;";

    /** Eight ones and eight wishes, wish i in need of one i: these are 160 bytes, a full tape. */
    static final String EACH = ONES + "wish 0 0 0;wish 0 0 1;wish 0 0 2;wish 0 0 3;wish 0 0 4;wish 0 0 5;wish 0 0 6;wish 0 0 7;";

    /** Wishes that bring a barred one each by what the clerk, at depth 0, does not look at: four must be asked. */
    static final String FOUR = "one barred;one barred;one barred;one dead;wish 0 1 2 3;wish 0 1 1;wish 0 1 0;wish 0 1;"
            + "wish 0 1 2;wish 0 1 1;wish 0 1 0;needs 1 4;needs 2 5;needs 3 6;";

    /**
     * The longest row found: wish 4 brings, unseen, a barred one and wish 7. Wish 5 asks for that one and needs wishes 0
     * to 3, which, once they clash with wish 7, must hold ahead of it so that the clerk does not look at them.
     */
    static final String SIX = "one barred;one dead;wish 0 1;wish 0 1;wish 0 1;wish 0 1;wish 0 1;wish 0 1 0 1;wish 0 1;wish 0 1 0;"
            + "needs 4 6;needs 6 7;needs 5 0 1 2 3;depth 1;";

    private Texts() {
    }
}
