/** The edges that the document names of the promises 9 to 14: comments, comments on comments, what stands. */
public final class CommentEdgesTest extends Pages {
    private CommentEdgesTest() {
    }

    public static void main(String[] args) {
        commentEnds();
        commentOnTheLastOnes();
        nthEnds();
        nthAsTheTextIs();
        linesAndMargins();
        atMost60Comments();
        atMost60WithGlosses();
        causes();
        glossEnds();
        glossOfYears();
        glossByTheCommentItIsOn();
        toldEnds();
        toldOfTheLast();
        standsByCounts();
        standsByThoseThatStand();
        standsLost();
        standsInTheTallest();
        hardEnds();
        hardByKinds();
        hardByTheLastDoubt();
        solvedEnds();
        solvedByKinds();
        solvedByTheLowestAnswer();
        solvedOnlyIfItFell();
        Check.close();
    }

    /** As many comments of a kind on a comment. */
    private static void pile(GlossedPage page, int comment, int kind, int count) {
        for (int n = 0; n < count; n++) {
            on(page, 0, comment, kind);
        }
    }

    // ---- 9: comment

    private static void commentEnds() {
        GlossedPage page = pageWith(0, 59);
        for (int kind = QUESTION; kind <= NOTE; kind++) {
            int comment = page.comment(0, 0, kind, 0, 1, 1, INNER);
            Check.due("9: the next number", comment, kind);
            Check.due("9: the kind " + kind, page.told(comment, 6), kind);
        }
        Check.fails("9: kind -1", ARGUMENT, () -> page.comment(0, 0, -1, 0, 1, 1, INNER));
        Check.fails("9: kind 5", ARGUMENT, () -> page.comment(0, 0, 5, 0, 1, 1, INNER));
        Check.due("9: word 0", page.told(0, 2), 0);
        Check.due("9: word 59", page.told(page.comment(0, 0, NOTE, 59, 1, 1, INNER), 2), 1);
        Check.fails("9: word -1", ARGUMENT, () -> page.comment(0, 0, NOTE, -1, 1, 1, INNER));
        Check.fails("9: word 60", ARGUMENT, () -> page.comment(0, 0, NOTE, 60, 1, 1, INNER));
        Check.due("9: lines 1", page.comment(0, 0, NOTE, 59, 1, 1, INNER), 6);
        Check.due("9: lines 9", page.comment(0, 0, NOTE, 59, 1, 9, INNER), 7);
        Check.fails("9: lines 0", ARGUMENT, () -> page.comment(0, 0, NOTE, 0, 1, 0, INNER));
        Check.fails("9: lines 10", ARGUMENT, () -> page.comment(0, 0, NOTE, 0, 1, 10, INNER));
        Check.due("9: margin OUTER", page.comment(0, 0, NOTE, 59, 1, 1, OUTER), 8);
        Check.fails("9: margin -1", ARGUMENT, () -> page.comment(0, 0, NOTE, 0, 1, 1, -1));
        Check.fails("9: margin 2", ARGUMENT, () -> page.comment(0, 0, NOTE, 0, 1, 1, 2));
        Check.due("9: no number was lost by those", page.comment(0, 0, NOTE, 0, 1, 1, INNER), 9);
    }

    private static void commentOnTheLastOnes() {
        GlossedPage page = new GlossedPage();
        Check.fails("9: no author and no unit", INDEX, () -> page.comment(0, 0, NOTE, 0, 1, 1, INNER));
        for (int n = 0; n < 12; n++) {
            page.author(n, 0, 0);
        }
        Check.fails("9: no unit", INDEX, () -> page.comment(0, 0, NOTE, 0, 1, 1, INNER));
        for (int unit = 0; unit < 20; unit++) {
            addUnit(page, unit);
        }
        int comment = page.comment(11, 19, NOTE, 19, 1, 1, INNER);
        Check.due("9: the last author", page.told(comment, 0), 11);
        Check.due("9: the last unit", page.told(comment, 1), 19);
        Check.fails("9: author 12 of 12", INDEX, () -> page.comment(12, 0, NOTE, 0, 1, 1, INNER));
        Check.fails("9: author -1", INDEX, () -> page.comment(-1, 0, NOTE, 0, 1, 1, INNER));
        Check.fails("9: unit 20 of 20", INDEX, () -> page.comment(0, 20, NOTE, 0, 1, 1, INNER));
        Check.fails("9: unit -1", INDEX, () -> page.comment(0, -1, NOTE, 0, 1, 1, INNER));
        Check.fails("9: a word of the next unit", STATE, () -> page.comment(0, 18, NOTE, 19, 1, 1, INNER));
    }

    private static void nthEnds() {
        GlossedPage page = pageWith(4, 4, 4, 4, 4, 4, 4, 4, 4, 4, 4, 4);
        addUnit(page, 4, 5, 4);
        for (int nth = 1; nth <= 12; nth++) {
            Check.due("9: nth " + nth, page.told(note(page, 0, 4, nth, 1, INNER), 2), nth - 1);
        }
        Check.fails("9: nth 0", ARGUMENT, () -> note(page, 0, 4, 0, 1, INNER));
        Check.fails("9: nth 13", ARGUMENT, () -> note(page, 0, 4, 13, 1, INNER));
        Check.due("9: as many as there are", page.told(note(page, 1, 4, 2, 1, INNER), 2), 2);
        Check.fails("9: one more than there are", STATE, () -> note(page, 1, 4, 3, 1, INNER));
        Check.fails("9: the last nth, of two", STATE, () -> note(page, 1, 4, 12, 1, INNER));
        Check.fails("9: not there at all", STATE, () -> note(page, 1, 6, 1, 1, INNER));
        Check.due("9: no number was lost by those", note(page, 1, 5, 1, 1, INNER), 13);
    }

    private static void nthAsTheTextIs() {
        GlossedPage page = pageWith(1, 2, 1);
        page.emend(0, 0, 3);
        Check.fails("9: emended away", STATE, () -> note(page, 0, 1, 2, 1, INNER));
        Check.due("9: the first one now", page.told(note(page, 0, 1, 1, 1, INNER), 2), 2);
        page.emend(0, 2, NONE);
        Check.fails("9: taken out, at the end", STATE, () -> note(page, 0, 1, 1, 1, INNER));
        page.emend(0, 1, 1);
        Check.due("9: emended to it", page.told(note(page, 0, 1, 1, 1, INNER), 2), 1);
    }

    private static void linesAndMargins() {
        GlossedPage page = pageWith(1);
        page.edition(1, 1);
        int one = note(page, 0, 1, 1, 1, INNER);
        int nine = note(page, 0, 1, 1, 9, INNER);
        int last = page.gloss(0, one, NOTE, 9, INNER);
        int below = page.gloss(0, one, NOTE, 1, INNER);
        int outer = page.gloss(0, one, NOTE, 1, OUTER);
        Check.due("9: behind a comment of 1 line", page.row(nine), 1);
        Check.due("9: behind a comment of 9 lines", page.row(last), 10);
        Check.due("10: behind one of 9 lines", page.row(below), 19);
        Check.due("10: at the other margin", page.row(outer), 0);
        Check.due("10: behind one of 1 line", page.row(page.gloss(0, outer, NOTE, 1, OUTER)), 1);
        Check.due("9: at the other margin", page.row(note(page, 0, 1, 1, 1, OUTER)), 2);
    }

    private static void atMost60Comments() {
        GlossedPage page = pageWith(1);
        for (int n = 0; n < 60; n++) {
            Check.due("9: a comment more", note(page, 0, 1, 1, 1, INNER), n);
        }
        Check.fails("9: there are 60", STATE, () -> note(page, 0, 1, 1, 1, INNER));
        Check.fails("10: there are 60", STATE, () -> page.gloss(0, 59, ANSWER, 1, INNER));
        Check.due("11: the last one", page.told(59, 6), NOTE);
        Check.due("12: nothing came on it", page.standsAnew(59), true);
        Check.fails("11: no comment 60 came", INDEX, () -> page.told(60, 0));
    }

    private static void atMost60WithGlosses() {
        GlossedPage page = pageWith(1);
        note(page, 0, 1, 1, 1, INNER);
        for (int n = 1; n < 60; n++) {
            Check.due("10: one on a comment more", page.gloss(0, 0, NOTE, 1, INNER), n);
        }
        Check.fails("10: there are 60", STATE, () -> page.gloss(0, 0, ANSWER, 1, INNER));
        Check.fails("9: there are 60 with those on comments", STATE, () -> note(page, 0, 1, 1, 1, INNER));
        Check.due("12: nothing came on the first", page.standsAnew(0), true);
        Check.fails("11: no comment 60 came", INDEX, () -> page.told(60, 0));
    }

    /** That for a missing word should have one, for which LANGUAGE.md (rule 6) leaves no way. */
    private static void causes() {
        GlossedPage page = pageWith(1);
        for (int n = 0; n < 60; n++) {
            note(page, 0, 1, 1, 1, INNER);
        }
        Throwable thrown = null;
        try {
            note(page, 0, 1, 1, 1, INNER);
        } catch (IllegalStateException e) {
            thrown = e;
        }
        Check.due("9: there are 60, without a cause", thrown != null && thrown.getCause() == null, true);
    }

    // ---- 10: gloss

    private static void glossEnds() {
        GlossedPage page = new GlossedPage();
        Check.fails("10: no author and no comment", INDEX, () -> page.gloss(0, 0, NOTE, 1, INNER));
        addUnit(page, 1);
        for (int n = 0; n < 12; n++) {
            page.author(0, 0, 0);
        }
        Check.fails("10: no comment", INDEX, () -> page.gloss(0, 0, NOTE, 1, INNER));
        note(page, 0, 1, 1, 1, INNER);
        for (int kind = QUESTION; kind <= NOTE; kind++) {
            int gloss = page.gloss(11, kind, kind, kind == QUESTION ? 1 : 9, kind % 2);
            Check.due("10: the next number", gloss, kind + 1);
            Check.due("10: the kind " + kind, page.told(gloss, 6), kind);
            Check.due("10: the last author", page.told(gloss, 0), 11);
            Check.due("10: on the last comment", page.told(gloss, 5), kind);
        }
        Check.fails("10: author 12 of 12", INDEX, () -> page.gloss(12, 0, NOTE, 1, INNER));
        Check.fails("10: author -1", INDEX, () -> page.gloss(-1, 0, NOTE, 1, INNER));
        Check.fails("10: on itself", INDEX, () -> page.gloss(0, 6, NOTE, 1, INNER));
        Check.fails("10: comment -1", INDEX, () -> page.gloss(0, -1, NOTE, 1, INNER));
        Check.fails("10: kind -1", ARGUMENT, () -> page.gloss(0, 0, -1, 1, INNER));
        Check.fails("10: kind 5", ARGUMENT, () -> page.gloss(0, 0, 5, 1, INNER));
        Check.fails("10: lines 0", ARGUMENT, () -> page.gloss(0, 0, NOTE, 0, INNER));
        Check.fails("10: lines 10", ARGUMENT, () -> page.gloss(0, 0, NOTE, 10, INNER));
        Check.fails("10: margin -1", ARGUMENT, () -> page.gloss(0, 0, NOTE, 1, -1));
        Check.fails("10: margin 2", ARGUMENT, () -> page.gloss(0, 0, NOTE, 1, 2));
        Check.due("10: no number was lost by those", page.gloss(0, 0, NOTE, 1, INNER), 6);
    }

    private static void glossOfYears() {
        int[][] rows = {{0, 0}, {0, 2000}, {2000, 2000}, {999, 1000}, {1000, 1000}};
        for (int[] years : rows) {
            GlossedPage page = new GlossedPage();
            addUnit(page, 1);
            page.author(years[0], 0, 0);
            page.author(years[1], 0, 0);
            note(page, 0, 1, 1, 1, INNER);
            Check.due("10: of " + years[1] + " on one of " + years[0], on(page, 1, 0, NOTE), 1);
            if (years[0] < years[1]) {
                Check.fails("10: of " + years[0] + " on one of " + years[1], STATE, () -> on(page, 0, 1, NOTE));
                Check.fails("10: nothing came of it", INDEX, () -> page.told(2, 0));
            } else {
                Check.due("10: of the same year", on(page, 0, 1, NOTE), 2);
            }
        }
        GlossedPage page = pageWith(1);
        page.author(0, 0, 0);
        Check.due("9: on a unit no year is too early", page.comment(1, 0, NOTE, 1, 1, 1, INNER), 0);
    }

    private static void glossByTheCommentItIsOn() {
        GlossedPage page = pageWith(1);
        int late = page.author(1500, 0, 0);
        int between = page.author(1200, 0, 0);
        int base = note(page, 0, 1, 1, 1, INNER);
        int ofLate = on(page, late, base, NOTE);
        Check.fails("10: on the later one's", STATE, () -> on(page, between, ofLate, NOTE));
        Check.due("10: on the one under it", on(page, between, base, NOTE), 2);
        Check.due("10: the unit of that", page.told(2, 1), 0);
    }

    // ---- 11: told

    private static void toldEnds() {
        GlossedPage page = pageWith(2, 1);
        Check.fails("11: no comment", INDEX, () -> page.told(0, 0));
        page.comment(0, 0, QUESTION, 1, 1, 1, INNER);
        int[] due = {0, 0, 1, 0, 1, NONE, QUESTION};
        for (int what = 0; what <= 6; what++) {
            Check.due("11: what " + what, page.told(0, what), due[what]);
        }
        Check.fails("11: what -1", ARGUMENT, () -> page.told(0, -1));
        Check.fails("11: what 7", ARGUMENT, () -> page.told(0, 7));
        Check.fails("11: comment -1", INDEX, () -> page.told(-1, 0));
        Check.fails("11: comment 1 of 1", INDEX, () -> page.told(1, 0));
        page.emend(0, 1, 3);
        Check.due("11: its unit, also if it is LOST", page.told(0, 1), 0);
        Check.due("11: its place, also if it is LOST", page.told(0, 2), 1);
        Check.due("11: that it is LOST", page.told(0, 3), 1);
        Check.due("11: it stands, LOST or not", page.told(0, 4), 1);
    }

    private static void toldOfTheLast() {
        GlossedPage page = pageWith(1);
        addUnit(page, 3, 2);
        page.author(1100, 0, 0);
        note(page, 0, 1, 1, 1, INNER);
        note(page, 1, 2, 1, 1, INNER);
        for (int n = 2; n < 59; n++) {
            on(page, 0, 1, NOTE);
        }
        page.gloss(1, 58, PROOF, 1, OUTER);
        int[] due = {1, 1, 1, 0, 1, 58, PROOF};
        for (int what = 0; what <= 6; what++) {
            Check.due("11: of the 60th, what " + what, page.told(59, what), due[what]);
        }
        page.emend(1, 0, NONE);
        Check.due("11: its place is that of the one under it", page.told(59, 2), 0);
        page.emend(1, 0, 5);
        Check.due("11: it is LOST with that", page.told(59, 3), 1);
    }

    // ---- 11, 12: what stands

    private static void standsByCounts() {
        int[][] rows = {{0, 0, 0, 1}, {1, 0, 0, 0}, {0, 1, 0, 0}, {0, 0, 1, 1}, {1, 0, 1, 1}, {0, 1, 1, 1},
            {1, 1, 1, 0}, {2, 0, 1, 0}, {0, 2, 1, 0}, {1, 1, 2, 1}, {2, 1, 2, 0}, {3, 0, 3, 1}, {59, 0, 0, 0},
            {0, 59, 0, 0}, {0, 0, 59, 1}, {30, 0, 29, 0}, {15, 15, 29, 0}, {29, 0, 30, 1}, {14, 15, 29, 1}};
        for (int[] row : rows) {
            GlossedPage page = pageWith(1);
            doubt(page, 0, OBJECTION);
            pile(page, 0, OBJECTION, row[0]);
            pile(page, 0, ANSWER, row[1]);
            pile(page, 0, PROOF, row[2]);
            String what = row[0] + " objections, " + row[1] + " answers, " + row[2] + " proofs";
            Check.due("12: " + what, page.standsAnew(0), row[3] == 1);
            Check.due("11: " + what, page.told(0, 4), row[3]);
            Check.due("13: " + what, page.isHard(0), row[3] == 1);
        }
        GlossedPage page = pageWith(1);
        doubt(page, 0, NOTE);
        pile(page, 0, QUESTION, 29);
        pile(page, 0, NOTE, 30);
        Check.due("12: questions and notes do not count", page.standsAnew(0), true);
        Check.fails("12: comment 60 of 60", INDEX, () -> page.standsAnew(60));
        Check.fails("12: comment -1", INDEX, () -> page.standsAnew(-1));
    }

    private static void standsByThoseThatStand() {
        GlossedPage page = pageWith(1);
        int base = doubt(page, 0, NOTE);
        int objection = on(page, 0, base, OBJECTION);
        Check.due("12: an objection that stands", page.standsAnew(base), false);
        on(page, 0, objection, ANSWER);
        Check.due("12: one that does not", page.standsAnew(base), true);
        int answer = on(page, 0, base, ANSWER);
        Check.due("12: an answer that stands", page.standsAnew(base), false);
        int proof = on(page, 0, base, PROOF);
        Check.due("12: a proof that stands", page.standsAnew(base), true);
        int against = on(page, 0, proof, OBJECTION);
        Check.due("12: a proof that does not", page.standsAnew(base), false);
        on(page, 0, answer, OBJECTION);
        Check.due("12: an answer that does not", page.standsAnew(base), true);
        on(page, 0, against, OBJECTION);
        Check.due("12: those on it, and those on these", page.standsAnew(proof), true);
        on(page, 0, objection, PROOF);
        Check.due("12: that stands again by a proof", page.standsAnew(objection), true);
        Check.due("12: against it stands a proof", page.standsAnew(base), true);
    }

    private static void standsLost() {
        GlossedPage page = pageWith(1);
        int base = doubt(page, 0, QUESTION);
        int answer = on(page, 0, base, ANSWER);
        page.emend(0, 0, 2);
        Check.due("12: it fell, LOST or not", page.standsAnew(base), false);
        Check.due("12: the answer stands, LOST or not", page.standsAnew(answer), true);
        Check.due("13: not hard", page.isHard(0), false);
        Check.due("14: solved", page.solved(0), 1);
        on(page, 0, answer, OBJECTION);
        Check.due("12: it stands, LOST or not", page.standsAnew(base), true);
        Check.due("13: hard", page.isHard(0), true);
        Check.due("14: not solved", page.solved(0), 0);
    }

    private static void standsInTheTallest() {
        for (int height = 2; height <= 60; height++) {
            GlossedPage page = pageWith(1);
            int top = doubt(page, 0, QUESTION);
            while (top < height - 1) {
                top = on(page, 0, top, top % 2 == 0 ? ANSWER : OBJECTION);
            }
            Check.due("12: the lowest of " + height, page.standsAnew(0), height % 2 == 1);
            Check.due("12: the uppermost of " + height, page.standsAnew(height - 1), true);
            Check.due("12: the one under it", page.standsAnew(height - 2), false);
        }
    }

    // ---- 13: isHard

    private static void hardEnds() {
        GlossedPage page = new GlossedPage();
        Check.fails("13: no unit", INDEX, () -> page.isHard(0));
        page.author(0, 0, 0);
        for (int unit = 0; unit < 20; unit++) {
            addUnit(page, 1);
        }
        Check.due("13: no comments, the first unit", page.isHard(0), false);
        Check.due("13: no comments, the last unit", page.isHard(19), false);
        page.comment(0, 19, QUESTION, 1, 1, 1, INNER);
        Check.due("13: the last unit", page.isHard(19), true);
        Check.due("13: the one ahead", page.isHard(18), false);
        page.comment(0, 0, OBJECTION, 1, 1, 1, INNER);
        Check.due("13: the first unit", page.isHard(0), true);
        Check.due("13: the one behind", page.isHard(1), false);
        Check.fails("13: unit 20 of 20", INDEX, () -> page.isHard(20));
        Check.fails("13: unit -1", INDEX, () -> page.isHard(-1));
    }

    private static void hardByKinds() {
        for (int kind = QUESTION; kind <= NOTE; kind++) {
            GlossedPage page = pageWith(1);
            int base = doubt(page, 0, kind);
            boolean isDoubt = kind == QUESTION || kind == OBJECTION;
            Check.due("13: by the kind " + kind, page.isHard(0), isDoubt);
            on(page, 0, base, QUESTION);
            Check.due("13: a question on it", page.isHard(0), isDoubt);
            int objection = on(page, 0, base, OBJECTION);
            Check.due("13: an objection on it, that is not on the unit itself", page.isHard(0), false);
            on(page, 0, objection, ANSWER);
            Check.due("13: that is answered", page.isHard(0), isDoubt);
        }
    }

    private static void hardByTheLastDoubt() {
        GlossedPage page = pageWith(1);
        for (int n = 0; n < 30; n++) {
            int question = doubt(page, 0, n % 2 == 0 ? QUESTION : OBJECTION);
            Check.due("13: one stands", page.isHard(0), true);
            on(page, 0, question, ANSWER);
            Check.due("13: none stands any more", page.isHard(0), false);
        }
        Check.due("14: all 30 are solved", page.solved(0), 30);
        GlossedPage last = pageWith(1);
        for (int n = 0; n < 59; n++) {
            doubt(last, 0, NOTE);
        }
        doubt(last, 0, QUESTION);
        Check.due("13: by the 60th comment", last.isHard(0), true);
    }

    // ---- 14: solved

    private static void dueSolved(String what, GlossedPage page, int... due) {
        for (int school = 0; school <= 3; school++) {
            Check.due("14: " + what + ", school " + school, page.solved(school), due[school]);
        }
    }

    private static GlossedPage pageOfSchools() {
        GlossedPage page = pageWith(1);
        page.author(1000, 1, 0);
        page.author(1000, 2, 0);
        page.author(1000, 3, 0);
        return page;
    }

    private static void solvedEnds() {
        GlossedPage page = pageOfSchools();
        Check.fails("14: school -1", ARGUMENT, () -> page.solved(-1));
        Check.fails("14: school 4", ARGUMENT, () -> page.solved(4));
        dueSolved("no comments", page, 0, 0, 0, 0);
        for (int school = 0; school <= 3; school++) {
            on(page, school, doubt(page, 0, QUESTION), ANSWER);
        }
        dueSolved("one each", page, 1, 1, 1, 1);
        on(page, 3, doubt(page, 0, OBJECTION), ANSWER);
        dueSolved("one more", page, 1, 1, 1, 2);
    }

    private static void solvedByKinds() {
        for (int kind = QUESTION; kind <= NOTE; kind++) {
            GlossedPage page = pageOfSchools();
            int base = doubt(page, 0, kind);
            boolean isDoubt = kind == QUESTION || kind == OBJECTION;
            on(page, 2, base, ANSWER);
            dueSolved("the kind " + kind, page, 0, 0, isDoubt ? 1 : 0, 0);
            int question = on(page, 0, base, QUESTION);
            on(page, 3, question, ANSWER);
            int objection = on(page, 0, base, OBJECTION);
            on(page, 3, objection, ANSWER);
            dueSolved("those on it are not on the unit itself", page, 0, 0, isDoubt ? 1 : 0, 0);
        }
    }

    private static void solvedByTheLowestAnswer() {
        GlossedPage page = pageOfSchools();
        int question = doubt(page, 0, QUESTION);
        int byOne = on(page, 1, question, ANSWER);
        int byTwo = on(page, 2, question, ANSWER);
        on(page, 3, question, ANSWER);
        dueSolved("the lowest of three", page, 0, 1, 0, 0);
        int against = on(page, 0, byOne, OBJECTION);
        dueSolved("the lowest that stands", page, 0, 0, 1, 0);
        on(page, 0, byTwo, OBJECTION);
        dueSolved("the only one that stands", page, 0, 0, 0, 1);
        on(page, 0, against, ANSWER);
        dueSolved("the lowest stands again", page, 0, 1, 0, 0);

        GlossedPage other = pageOfSchools();
        int first = doubt(other, 0, QUESTION);
        int second = doubt(other, 0, QUESTION);
        on(other, 2, second, ANSWER);
        on(other, 3, first, ANSWER);
        dueSolved("each by the answers on it", other, 0, 0, 1, 1);
    }

    private static void solvedOnlyIfItFell() {
        GlossedPage page = pageOfSchools();
        int question = doubt(page, 0, QUESTION);
        on(page, 1, question, PROOF);
        on(page, 2, question, ANSWER);
        dueSolved("an answer stands, but the question too", page, 0, 0, 0, 0);
        on(page, 3, question, ANSWER);
        dueSolved("a second answer", page, 0, 0, 1, 0);

        GlossedPage other = pageOfSchools();
        int fallen = doubt(other, 0, QUESTION);
        int objection = on(other, 1, fallen, OBJECTION);
        dueSolved("it fell, but no answer is on it", other, 0, 0, 0, 0);
        on(other, 2, objection, NOTE);
        int answer = on(other, 3, fallen, ANSWER);
        on(other, 1, answer, OBJECTION);
        dueSolved("it fell, but no answer on it stands", other, 0, 0, 0, 0);
        on(other, 2, answer, ANSWER);
        dueSolved("answers on answers are not on it", other, 0, 0, 0, 0);
    }
}
