/** What the tests of single promises begin with. */
abstract class Pages {
    static final Class<IndexOutOfBoundsException> INDEX = IndexOutOfBoundsException.class;
    static final Class<IllegalArgumentException> ARGUMENT = IllegalArgumentException.class;
    static final Class<IllegalStateException> STATE = IllegalStateException.class;
    static final int NONE = GlossedPage.NONE;
    static final int QUESTION = GlossedPage.QUESTION, OBJECTION = GlossedPage.OBJECTION;
    static final int PROOF = GlossedPage.PROOF, ANSWER = GlossedPage.ANSWER, NOTE = GlossedPage.NOTE;
    static final int INNER = GlossedPage.INNER, OUTER = GlossedPage.OUTER;
    static final int SCHOOL = GlossedPage.SCHOOL, LATEST = GlossedPage.LATEST;
    static final int MOST = GlossedPage.MOST, EXCEPT = GlossedPage.EXCEPT;
    static final int[] WILD = {Integer.MIN_VALUE, -2, 1000000, Integer.MAX_VALUE};

    static void draft(GlossedPage page, int... words) {
        for (int word : words) {
            page.word(word);
        }
    }

    static void addUnit(GlossedPage page, int... words) {
        draft(page, words);
        page.unit();
    }

    static GlossedPage pageWith(int... words) {
        GlossedPage page = new GlossedPage();
        addUnit(page, words);
        page.author(1000, 0, 0);
        return page;
    }

    static int note(GlossedPage page, int unit, int word, int nth, int lines, int margin) {
        return page.comment(0, unit, NOTE, word, nth, lines, margin);
    }

    static int doubt(GlossedPage page, int author, int kind) {
        return page.comment(author, 0, kind, 1, 1, 1, INNER);
    }

    static int on(GlossedPage page, int author, int comment, int kind) {
        return page.gloss(author, comment, kind, 1, INNER);
    }

    static String textOf(GlossedPage page, int unit) {
        StringBuilder words = new StringBuilder();
        for (int place = 0; page.textOf(unit, place) != NONE; place++) {
            words.append(place == 0 ? "" : " ").append(page.textOf(unit, place));
        }
        return words.toString();
    }
}
