/** Each promise by itself: ordinary inputs, the edges that the document names, and wrong inputs. */
public final class PromisesTest extends Pages {
    private PromisesTest() {
    }

    public static void main(String[] args) {
        constants();
        newObject();
        word();
        wipe();
        unit();
        emend();
        emendDrifts();
        emendLoses();
        emendMovesLost();
        textOf();
        author();
        meant();
        comment();
        gloss();
        told();
        stands();
        isHard();
        solved();
        found();
        exact();
        ruling();
        follow();
        unfollow();
        decided();
        edition();
        address();
        pages();
        row();
        rowOfTwoMargins();
        holds();
        daily();
        Check.close();
    }

    private static void constants() {
        Check.due("NONE", GlossedPage.NONE, -1);
        Check.due("QUESTION", GlossedPage.QUESTION, 0);
        Check.due("OBJECTION", GlossedPage.OBJECTION, 1);
        Check.due("PROOF", GlossedPage.PROOF, 2);
        Check.due("ANSWER", GlossedPage.ANSWER, 3);
        Check.due("NOTE", GlossedPage.NOTE, 4);
        Check.due("INNER", GlossedPage.INNER, 0);
        Check.due("OUTER", GlossedPage.OUTER, 1);
        Check.due("SCHOOL", GlossedPage.SCHOOL, 0);
        Check.due("LATEST", GlossedPage.LATEST, 1);
        Check.due("MOST", GlossedPage.MOST, 2);
        Check.due("EXCEPT", GlossedPage.EXCEPT, 3);
    }

    private static void newObject() {
        GlossedPage page = new GlossedPage();
        Check.due("1: wipe", page.wipe(), 0);
        Check.due("1: found", page.found(), NONE);
        Check.due("1: exact", page.exact(), 0);
        Check.due("1: meant", page.meant(0, 2000), NONE);
        Check.due("1: solved", page.solved(0), 0);
        Check.due("1: decided", page.decided(0), NONE);
        Check.due("1: daily", page.daily(0), 0);
        Check.fails("1: textOf", INDEX, () -> page.textOf(0, 0));
        Check.fails("1: told", INDEX, () -> page.told(0, 0));
        Check.fails("1: row", INDEX, () -> page.row(0));
        Check.fails("1: isHard", INDEX, () -> page.isHard(0));
        Check.fails("1: pages", INDEX, () -> page.pages(0));
        Check.fails("1: unfollow", INDEX, () -> page.unfollow(0));
        Check.fails("1: ruling", INDEX, () -> page.ruling(0, 0, true));
        Check.fails("1: edition", STATE, () -> page.edition(1, 1));
        GlossedPage other = new GlossedPage();
        page.word(1);
        Check.due("1: objects share nothing", other.wipe(), 0);
    }

    private static void word() {
        GlossedPage page = new GlossedPage();
        for (int n = 1; n <= 12; n++) {
            Check.due("2: word", page.word(n == 1 ? 0 : 59), n);
        }
        Check.fails("2: word on a full pad", STATE, () -> page.word(5));
        Check.fails("2: a wrong word on a full pad", ARGUMENT, () -> page.word(60));
        Check.due("2: the pad stays as it was", page.wipe(), 12);
        Check.fails("2: word NONE", ARGUMENT, () -> page.word(NONE));
        for (int wild : WILD) {
            Check.fails("2: word " + wild, ARGUMENT, () -> page.word(wild));
        }
        Check.due("2: nothing came on the pad", page.wipe(), 0);
    }

    private static void wipe() {
        GlossedPage page = new GlossedPage();
        draft(page, 1, 2);
        Check.due("3: wipe", page.wipe(), 2);
        Check.due("3: wipe again", page.wipe(), 0);
        Check.due("3: word behind a wipe", page.word(7), 1);
        page.unit();
        Check.due("3: the wiped words are gone", textOf(page, 0), "7");
    }

    private static void unit() {
        GlossedPage page = new GlossedPage();
        Check.fails("4: unit of an empty pad", STATE, page::unit);
        for (int unit = 0; unit < 20; unit++) {
            draft(page, unit, unit + 1);
            Check.due("4: unit", page.unit(), unit);
        }
        Check.due("4: the pad is empty then", page.wipe(), 0);
        Check.due("4: the first unit", textOf(page, 0), "0 1");
        Check.due("4: the last unit", textOf(page, 19), "19 20");
        page.word(1);
        Check.fails("4: unit 20", STATE, page::unit);
        Check.due("4: the pad stays as it was", page.wipe(), 1);
        GlossedPage wide = new GlossedPage();
        addUnit(wide, 1, 2, 3, 4, 5, 6, 7, 8, 9, 10, 11, 12);
        addUnit(wide, 13);
        Check.due("4: a unit of 12 words", textOf(wide, 0), "1 2 3 4 5 6 7 8 9 10 11 12");
        Check.due("4: the unit behind it", textOf(wide, 1), "13");
    }

    private static void emend() {
        GlossedPage page = pageWith(1, 2, 3);
        addUnit(page, 4, 5);
        Check.due("5: emend", page.emend(0, 1, 59), 0);
        Check.due("5: the text then", textOf(page, 0), "1 59 3");
        Check.due("5: take out the first word", page.emend(0, 0, NONE), 0);
        Check.due("5: the text then", textOf(page, 0), "59 3");
        Check.due("5: take out the last word", page.emend(0, 1, NONE), 0);
        Check.due("5: the text then", textOf(page, 0), "59");
        Check.due("5: another unit stays", textOf(page, 1), "4 5");
        Check.fails("5: take out the only word", STATE, () -> page.emend(0, 0, NONE));
        Check.due("5: the text stays", textOf(page, 0), "59");
        Check.due("5: emend the only word", page.emend(0, 0, 0), 0);
        Check.fails("5: place 1 of 1", INDEX, () -> page.emend(0, 1, 3));
        Check.fails("5: place -1", INDEX, () -> page.emend(0, -1, 3));
        Check.fails("5: unit 2 of 2", INDEX, () -> page.emend(2, 0, 3));
        Check.fails("5: unit -1", INDEX, () -> page.emend(-1, 0, 3));
        Check.fails("5: unit comes ahead of word", INDEX, () -> page.emend(2, 0, 60));
        Check.fails("5: place comes ahead of the only word", INDEX, () -> page.emend(0, 1, NONE));
        Check.fails("5: word 60", ARGUMENT, () -> page.emend(0, 0, 60));
        for (int wild : WILD) {
            Check.fails("5: word " + wild, ARGUMENT, () -> page.emend(0, 0, wild));
            Check.fails("5: unit " + wild, INDEX, () -> page.emend(wild, 0, 1));
            Check.fails("5: place " + wild, INDEX, () -> page.emend(0, wild, 1));
        }
        Check.due("5: the text stays", textOf(page, 0), "0");
    }

    private static void emendDrifts() {
        GlossedPage page = pageWith(1, 9, 1, 9, 1);
        int note = note(page, 0, 1, 2, 1, INNER);
        Check.due("5: emended beside the hook", page.emend(0, 1, 8), 0);
        Check.due("5: the hook stays", page.told(note, 2), 2);
        Check.due("5: its word is emended", page.emend(0, 2, 7), 0);
        Check.due("5: of two the lower one", page.told(note, 2), 0);
        Check.due("5: a nearer one comes", page.emend(0, 1, 1), 0);
        Check.due("5: it stands at its word", page.told(note, 2), 0);

        GlossedPage other = pageWith(5, 6, 1, 6, 6, 1);
        int hook = note(other, 0, 1, 1, 1, INNER);
        int last = note(other, 0, 1, 2, 1, INNER);
        Check.due("5: a word ahead is taken out", other.emend(0, 0, NONE), 0);
        Check.due("5: one lower", other.told(hook, 2), 1);
        Check.due("5: a word behind is taken out", other.emend(0, 2, NONE), 0);
        Check.due("5: stays", other.told(hook, 2), 1);
        Check.due("5: that behind it is one lower", other.told(last, 2), 3);
        Check.due("5: its own word is taken out", other.emend(0, 3, NONE), 0);
        Check.due("5: nearest to where it stood", other.told(last, 2), 1);

        GlossedPage twice = pageWith(1, 6, 1, 1);
        int middle = note(twice, 0, 1, 2, 1, INNER);
        twice.emend(0, 2, NONE);
        Check.due("5: the next one comes where it stood", twice.told(middle, 2), 2);
    }

    private static void emendLoses() {
        GlossedPage page = pageWith(1, 2, 1);
        addUnit(page, 1, 2);
        int first = note(page, 0, 1, 1, 1, INNER);
        int second = note(page, 0, 2, 1, 1, INNER);
        int elsewhere = note(page, 1, 2, 1, 1, INNER);
        int gloss = on(page, 0, second, NOTE);
        Check.due("5: LOST", page.emend(0, 1, 3), 1);
        Check.due("5: it is LOST", page.told(second, 3), 1);
        Check.due("5: the comment on it too", page.told(gloss, 3), 1);
        Check.due("5: another one is not", page.told(first, 3), 0);
        Check.due("5: one of another unit is not", page.told(elsewhere, 3), 0);
        Check.due("5: LOST stays", page.emend(0, 0, 4), 0);
        Check.due("5: one LOST, one found again", page.emend(0, 2, 2), 2);
        Check.due("5: not LOST any more", page.told(second, 3), 0);
        Check.due("5: nor the comment on it", page.told(gloss, 3), 0);
        Check.due("5: at its word", page.told(second, 2), 2);
        Check.due("5: the comment on it as well", page.told(gloss, 2), 2);
        Check.due("5: the other is LOST", page.told(first, 3), 1);
        Check.due("5: and stands where it stood", page.told(first, 2), 2);
        Check.due("5: emended to the same word", page.emend(0, 2, 2), 0);
        Check.due("5: LOST by taking out", page.emend(0, 2, NONE), 1);
    }

    private static void emendMovesLost() {
        GlossedPage page = pageWith(5, 6, 1, 7, 8);
        int note = note(page, 0, 1, 1, 1, INNER);
        page.emend(0, 2, 9);
        page.emend(0, 4, 9);
        Check.due("5: emended words do not move a LOST one", page.told(note, 2), 2);
        page.emend(0, 3, NONE);
        Check.due("5: nor one taken out behind it", page.told(note, 2), 2);
        page.emend(0, 0, NONE);
        Check.due("5: one taken out ahead does", page.told(note, 2), 1);
        page.emend(0, 1, NONE);
        Check.due("5: where it stood", page.told(note, 2), 1);
        page.emend(0, 1, NONE);
        Check.due("5: at most at the last place", page.told(note, 2), 0);
        Check.due("5: still LOST", page.told(note, 3), 1);
        Check.due("5: there again", page.emend(0, 0, 1), 1);
        Check.due("5: not LOST any more", page.told(note, 3), 0);

        GlossedPage far = pageWith(5, 6, 7, 1);
        int lost = note(far, 0, 1, 1, 1, INNER);
        far.emend(0, 3, 8);
        Check.due("5: there again, elsewhere", far.emend(0, 0, 1), 1);
        Check.due("5: it comes to it from afar", far.told(lost, 2), 0);
    }

    private static void textOf() {
        GlossedPage page = pageWith(0, 59);
        Check.due("6: the first word", page.textOf(0, 0), 0);
        Check.due("6: the last word", page.textOf(0, 1), 59);
        Check.due("6: behind the last word", page.textOf(0, 2), NONE);
        Check.due("6: far behind it", page.textOf(0, Integer.MAX_VALUE), NONE);
        Check.fails("6: place -1", INDEX, () -> page.textOf(0, -1));
        Check.fails("6: unit 1 of 1", INDEX, () -> page.textOf(1, 0));
        Check.fails("6: unit -1", INDEX, () -> page.textOf(-1, 0));
        for (int wild : WILD) {
            Check.fails("6: unit " + wild, INDEX, () -> page.textOf(wild, 0));
        }
        page.emend(0, 1, NONE);
        Check.due("6: a word that was taken out", page.textOf(0, 1), NONE);
    }

    private static void author() {
        GlossedPage page = new GlossedPage();
        Check.fails("7: year 2001", ARGUMENT, () -> page.author(2001, 0, 0));
        Check.fails("7: year -1", ARGUMENT, () -> page.author(-1, 0, 0));
        Check.fails("7: school 4", ARGUMENT, () -> page.author(0, 4, 0));
        Check.fails("7: school -1", ARGUMENT, () -> page.author(0, -1, 0));
        Check.fails("7: initials 100", ARGUMENT, () -> page.author(0, 0, 100));
        Check.fails("7: initials -1", ARGUMENT, () -> page.author(0, 0, -1));
        for (int author = 0; author < 12; author++) {
            Check.due("7: author", page.author(author == 0 ? 0 : 2000, author % 4, author == 0 ? 0 : 99), author);
        }
        Check.fails("7: author 12", STATE, () -> page.author(5, 0, 0));
        Check.fails("7: a wrong argument of author 12", ARGUMENT, () -> page.author(5, 0, 100));
        Check.due("7: nobody came", page.meant(0, 2000), 0);
    }

    private static void meant() {
        GlossedPage page = new GlossedPage();
        page.author(1100, 0, 5);
        page.author(1200, 1, 5);
        page.author(1200, 2, 5);
        page.author(1150, 2, 5);
        page.author(1300, 2, 6);
        Check.due("8: ahead of all", page.meant(5, 1099), NONE);
        Check.due("8: in the very year", page.meant(5, 1100), 0);
        Check.due("8: behind the first", page.meant(5, 1149), 0);
        Check.due("8: the greatest year that is not above", page.meant(5, 1199), 3);
        Check.due("8: of several the lowest", page.meant(5, 2000), 1);
        Check.due("8: other initials", page.meant(6, 2000), 4);
        Check.due("8: initials of nobody", page.meant(7, 2000), NONE);
        Check.fails("8: initials 100", ARGUMENT, () -> page.meant(100, 0));
        Check.fails("8: initials -1", ARGUMENT, () -> page.meant(-1, 0));
        Check.fails("8: year 2001", ARGUMENT, () -> page.meant(0, 2001));
        Check.fails("8: year -1", ARGUMENT, () -> page.meant(0, -1));
        page.author(0, 0, 99);
        Check.due("8: the year 0", page.meant(99, 0), 5);
        GlossedPage other = new GlossedPage();
        other.author(7, 0, 1);
        other.author(3, 0, 1);
        Check.due("8: the greatest year comes first", other.meant(1, 9), 0);
    }

    private static void comment() {
        GlossedPage page = pageWith(1, 2, 1, 2, 1);
        addUnit(page, 3, 0, 59);
        page.author(10, 1, 1);
        Check.due("9: the first one", page.comment(0, 0, QUESTION, 1, 2, 1, INNER), 0);
        Check.due("9: the second one", page.comment(1, 1, NOTE, 59, 1, 9, OUTER), 1);
        Check.due("9: the word 0", page.comment(1, 1, NOTE, 0, 1, 9, OUTER), 2);
        Check.due("9: its place", page.told(0, 2), 2);
        Check.due("9: its author", page.told(1, 0), 1);
        Check.due("9: its unit", page.told(1, 1), 1);
        Check.fails("9: author 2 of 2", INDEX, () -> page.comment(2, 0, NOTE, 1, 1, 1, INNER));
        Check.fails("9: author -1", INDEX, () -> page.comment(-1, 0, NOTE, 1, 1, 1, INNER));
        Check.fails("9: unit 2 of 2", INDEX, () -> page.comment(0, 2, NOTE, 1, 1, 1, INNER));
        Check.fails("9: unit -1", INDEX, () -> page.comment(0, -1, NOTE, 1, 1, 1, INNER));
        Check.fails("9: unit comes ahead of kind", INDEX, () -> page.comment(0, 2, 5, 1, 1, 1, INNER));
        Check.fails("9: kind 5", ARGUMENT, () -> page.comment(0, 0, 5, 1, 1, 1, INNER));
        Check.fails("9: kind -1", ARGUMENT, () -> page.comment(0, 0, -1, 1, 1, 1, INNER));
        Check.fails("9: word 60", ARGUMENT, () -> page.comment(0, 0, NOTE, 60, 1, 1, INNER));
        Check.fails("9: word NONE", ARGUMENT, () -> page.comment(0, 0, NOTE, NONE, 1, 1, INNER));
        Check.fails("9: nth 0", ARGUMENT, () -> page.comment(0, 0, NOTE, 1, 0, 1, INNER));
        Check.fails("9: nth 13", ARGUMENT, () -> page.comment(0, 0, NOTE, 1, 13, 1, INNER));
        Check.fails("9: lines 0", ARGUMENT, () -> page.comment(0, 0, NOTE, 1, 1, 0, INNER));
        Check.fails("9: lines 10", ARGUMENT, () -> page.comment(0, 0, NOTE, 1, 1, 10, INNER));
        Check.fails("9: margin 2", ARGUMENT, () -> page.comment(0, 0, NOTE, 1, 1, 1, 2));
        Check.fails("9: margin -1", ARGUMENT, () -> page.comment(0, 0, NOTE, 1, 1, 1, -1));
        Check.fails("9: a word too seldom there", STATE, () -> page.comment(0, 0, NOTE, 1, 4, 1, INNER));
        Check.fails("9: nth 12", STATE, () -> page.comment(0, 0, NOTE, 1, 12, 1, INNER));
        Check.fails("9: a word of another unit", STATE, () -> page.comment(0, 0, NOTE, 3, 1, 1, INNER));
        Check.fails("9: margin comes ahead of the word", ARGUMENT, () -> page.comment(0, 0, NOTE, 3, 1, 1, 2));
        Check.due("9: nothing came", page.comment(0, 0, NOTE, 1, 3, 1, INNER), 3);
        Check.due("9: its place", page.told(3, 2), 4);
        while (page.comment(0, 0, NOTE, 2, 1, 1, INNER) < 59) {
            Check.due("9: more of them", page.told(4, 2), 1);
        }
        Check.fails("9: comment 60", STATE, () -> page.comment(0, 0, NOTE, 2, 1, 1, INNER));
        Check.fails("9: gloss as comment 60", STATE, () -> page.gloss(0, 0, NOTE, 1, INNER));
        Check.fails("9: a wrong argument of comment 60", ARGUMENT, () -> page.comment(0, 0, NOTE, 2, 1, 0, INNER));
        Check.fails("9: no comment 60", INDEX, () -> page.told(60, 0));
        GlossedPage same = pageWith(4, 4, 4, 4, 4, 4, 4, 4, 4, 4, 4, 4);
        Check.due("9: the 12th of a word", same.told(same.comment(0, 0, NOTE, 4, 12, 1, INNER), 2), 11);
    }

    private static void gloss() {
        GlossedPage page = pageWith(1, 2, 1);
        int late = page.author(1500, 1, 1);
        int alike = page.author(1000, 2, 2);
        int base = note(page, 0, 1, 2, 1, INNER);
        Check.due("10: by a later one", page.gloss(late, base, ANSWER, 9, OUTER), 1);
        Check.due("10: by one of the same year", page.gloss(alike, base, QUESTION, 1, INNER), 2);
        Check.due("10: by himself", page.gloss(0, base, NOTE, 1, INNER), 3);
        Check.fails("10: nobody speaks to a later one", STATE, () -> page.gloss(0, 1, NOTE, 1, INNER));
        Check.fails("10: author 3 of 3", INDEX, () -> page.gloss(3, base, NOTE, 1, INNER));
        Check.fails("10: author -1", INDEX, () -> page.gloss(-1, base, NOTE, 1, INNER));
        Check.fails("10: comment 4 of 4", INDEX, () -> page.gloss(0, 4, NOTE, 1, INNER));
        Check.fails("10: comment -1", INDEX, () -> page.gloss(0, -1, NOTE, 1, INNER));
        Check.fails("10: comment comes ahead of kind", INDEX, () -> page.gloss(0, 4, 5, 1, INNER));
        Check.fails("10: kind 5", ARGUMENT, () -> page.gloss(0, base, 5, 1, INNER));
        Check.fails("10: kind -1", ARGUMENT, () -> page.gloss(0, base, -1, 1, INNER));
        Check.fails("10: lines 0", ARGUMENT, () -> page.gloss(0, base, NOTE, 0, INNER));
        Check.fails("10: lines 10", ARGUMENT, () -> page.gloss(0, base, NOTE, 10, INNER));
        Check.fails("10: margin 2", ARGUMENT, () -> page.gloss(0, base, NOTE, 1, 2));
        Check.fails("10: margin -1", ARGUMENT, () -> page.gloss(0, base, NOTE, 1, -1));
        Check.fails("10: margin comes ahead of the year", ARGUMENT, () -> page.gloss(0, 1, NOTE, 1, 2));
        Check.due("10: nothing came", page.gloss(late, 1, PROOF, 1, INNER), 4);
        Check.due("10: the unit of the comment under it", page.told(4, 1), 0);
        Check.due("10: and the place", page.told(4, 2), 2);
        int deep = 4;
        while (deep < 59) {
            deep = page.gloss(late, deep, NOTE, 1, INNER);
        }
        Check.due("10: one on one on one", page.told(59, 5), 58);
        Check.due("10: its place", page.told(59, 2), 2);
        Check.fails("10: gloss 60", STATE, () -> page.gloss(late, 0, NOTE, 1, INNER));
    }

    private static void told() {
        GlossedPage page = pageWith(1, 2);
        addUnit(page, 3, 4, 3);
        page.author(1800, 3, 9);
        int base = page.comment(1, 1, OBJECTION, 3, 2, 4, OUTER);
        int answer = page.gloss(1, base, ANSWER, 2, INNER);
        int[] ofBase = {1, 1, 2, 0, 0, NONE, OBJECTION};
        int[] ofAnswer = {1, 1, 2, 0, 1, base, ANSWER};
        for (int what = 0; what <= 6; what++) {
            Check.due("11: of the comment, " + what, page.told(base, what), ofBase[what]);
            Check.due("11: of that on it, " + what, page.told(answer, what), ofAnswer[what]);
        }
        page.emend(1, 2, 5);
        page.emend(1, 0, 5);
        Check.due("11: LOST", page.told(base, 3), 1);
        Check.due("11: LOST with that", page.told(answer, 3), 1);
        Check.due("11: its place, though it is LOST", page.told(base, 2), 0);
        Check.fails("11: what 7", ARGUMENT, () -> page.told(base, 7));
        Check.fails("11: what -1", ARGUMENT, () -> page.told(base, -1));
        Check.fails("11: comment 2 of 2", INDEX, () -> page.told(2, 0));
        Check.fails("11: comment -1", INDEX, () -> page.told(-1, 0));
        Check.fails("11: comment comes ahead of what", INDEX, () -> page.told(2, 7));
        for (int wild : WILD) {
            Check.fails("11: comment " + wild, INDEX, () -> page.told(wild, 0));
            Check.fails("11: what " + wild, ARGUMENT, () -> page.told(0, wild));
        }
    }

    private static void stands() {
        GlossedPage page = pageWith(1, 2);
        int base = doubt(page, 0, NOTE);
        dueStands(page, base, true);
        on(page, 0, base, QUESTION);
        on(page, 0, base, NOTE);
        dueStands(page, base, true);
        int objection = on(page, 0, base, OBJECTION);
        dueStands(page, base, false);
        int proof = on(page, 0, base, PROOF);
        dueStands(page, base, true);
        int answer = on(page, 0, base, ANSWER);
        dueStands(page, base, false);
        int againstProof = on(page, 0, proof, OBJECTION);
        dueStands(page, proof, false);
        on(page, 0, objection, ANSWER);
        dueStands(page, objection, false);
        dueStands(page, base, false);
        on(page, 0, againstProof, ANSWER);
        dueStands(page, proof, true);
        dueStands(page, base, true);
        on(page, 0, answer, PROOF);
        dueStands(page, answer, true);
        dueStands(page, base, true);
        page.emend(0, 0, 2);
        Check.due("12: LOST", page.told(base, 3), 1);
        dueStands(page, base, true);
        dueStands(page, objection, false);
        Check.fails("12: comment -1", INDEX, () -> page.standsAnew(-1));
        Check.fails("12: comment that is not there", INDEX, () -> page.standsAnew(10));
        standsInChain();
    }

    private static void standsInChain() {
        GlossedPage page = pageWith(1);
        int top = doubt(page, 0, OBJECTION);
        while (top < 59) {
            top = on(page, 0, top, top % 2 == 0 ? ANSWER : OBJECTION);
        }
        for (int comment = 0; comment <= 59; comment++) {
            dueStands(page, comment, comment % 2 == 1);
        }
    }

    private static void dueStands(GlossedPage page, int comment, boolean want) {
        Check.due("11: whether " + comment + " stands", page.told(comment, 4), want ? 1 : 0);
        Check.due("12: whether " + comment + " stands", page.standsAnew(comment), want);
    }

    private static void isHard() {
        GlossedPage page = pageWith(1, 2);
        addUnit(page, 1);
        Check.due("13: without comments", page.isHard(0), false);
        int note = doubt(page, 0, NOTE);
        doubt(page, 0, PROOF);
        doubt(page, 0, ANSWER);
        on(page, 0, note, QUESTION);
        on(page, 0, note, OBJECTION);
        Check.due("13: without a doubt on itself", page.isHard(0), false);
        int question = doubt(page, 0, QUESTION);
        Check.due("13: with a question", page.isHard(0), true);
        Check.due("13: another unit is not", page.isHard(1), false);
        on(page, 0, question, ANSWER);
        Check.due("13: with an answer", page.isHard(0), false);
        doubt(page, 0, OBJECTION);
        Check.due("13: with an objection", page.isHard(0), true);
        page.emend(0, 0, 3);
        Check.due("13: though it is LOST", page.isHard(0), true);
        GlossedPage other = pageWith(1);
        doubt(other, 0, OBJECTION);
        Check.due("13: by the comment 0", other.isHard(0), true);
        Check.fails("13: unit 2 of 2", INDEX, () -> page.isHard(2));
        Check.fails("13: unit -1", INDEX, () -> page.isHard(-1));
    }

    private static void solved() {
        GlossedPage page = pageWith(1, 2);
        page.author(1000, 1, 0);
        page.author(1000, 2, 0);
        page.author(1000, 3, 0);
        int question = doubt(page, 0, QUESTION);
        dueSolved(page, 0, 0, 0, 0);
        int first = on(page, 1, question, ANSWER);
        on(page, 2, question, ANSWER);
        dueSolved(page, 0, 1, 0, 0);
        int against = on(page, 3, first, OBJECTION);
        dueSolved(page, 0, 0, 1, 0);
        on(page, 3, against, ANSWER);
        dueSolved(page, 0, 1, 0, 0);
        int objection = doubt(page, 3, OBJECTION);
        on(page, 2, objection, OBJECTION);
        dueSolved(page, 0, 1, 0, 0);
        on(page, 0, objection, ANSWER);
        dueSolved(page, 1, 1, 0, 0);
        int proved = doubt(page, 0, QUESTION);
        on(page, 3, proved, ANSWER);
        dueSolved(page, 1, 1, 0, 1);
        on(page, 0, proved, PROOF);
        dueSolved(page, 1, 1, 0, 0);
        int note = doubt(page, 0, NOTE);
        on(page, 3, note, ANSWER);
        int nested = on(page, 0, note, QUESTION);
        on(page, 3, nested, ANSWER);
        dueSolved(page, 1, 1, 0, 0);
        page.emend(0, 0, 2);
        dueSolved(page, 1, 1, 0, 0);
        Check.fails("14: school 4", ARGUMENT, () -> page.solved(4));
        Check.fails("14: school -1", ARGUMENT, () -> page.solved(-1));
    }

    private static void dueSolved(GlossedPage page, int... want) {
        for (int school = 0; school < 4; school++) {
            Check.due("14: solved by school " + school, page.solved(school), want[school]);
        }
    }

    private static void found() {
        GlossedPage page = pageWith(1, 2, 3);
        addUnit(page, 3, 2, 1, 4);
        addUnit(page, 1, 9, 2, 9, 4);
        Check.due("15: an empty pad", page.found(), NONE);
        draft(page, 50);
        Check.due("15: nothing alike", page.found(), NONE);
        page.wipe();
        draft(page, 1);
        Check.due("15: of several the lowest", page.found(), 0);
        page.wipe();
        draft(page, 3, 1);
        Check.due("15: the same order", page.found(), 1);
        page.wipe();
        draft(page, 1, 2, 4);
        Check.due("15: with others between", page.found(), 2);
        page.emend(2, 2, NONE);
        Check.due("15: the text as it is now", page.found(), 0);
        Check.due("15: the pad stays", page.wipe(), 3);
    }

    private static void exact() {
        GlossedPage page = pageWith(1, 2, 3);
        addUnit(page, 1, 1, 1, 1, 1, 1, 1, 1, 1, 1, 1, 1);
        Check.due("16: an empty pad", page.exact(), 0);
        draft(page, 50);
        Check.due("16: nothing alike", page.exact(), 0);
        page.wipe();
        draft(page, 1, 2, 3);
        Check.due("16: all of it", page.exact(), 100);
        draft(page, 1);
        Check.due("16: rounded down", page.exact(), 85);
        page.wipe();
        draft(page, 7, 1, 8, 1, 9);
        Check.due("16: by the unit in which it is found", page.exact(), 23);
        page.wipe();
        draft(page, 1);
        Check.due("16: by the lowest one", page.exact(), 50);
        page.wipe();
        draft(page, 1, 1, 1, 1, 1, 1, 1, 1, 1, 1, 1, 1);
        Check.due("16: all of twelve words", page.exact(), 100);
    }

    private static void ruling() {
        GlossedPage page = new GlossedPage();
        for (int author = 0; author < 12; author++) {
            page.author(author, 0, 0);
        }
        for (int author = 11; author >= 0; author--) {
            Check.due("17: ruling", page.ruling(author, 9, author % 2 == 0), 12 - author);
        }
        Check.due("17: another topic", page.ruling(11, 0, true), 1);
        Check.fails("17: again", STATE, () -> page.ruling(11, 9, false));
        Check.fails("17: again the same", STATE, () -> page.ruling(11, 0, true));
        Check.fails("17: again, after a no", STATE, () -> page.ruling(3, 9, true));
        Check.fails("17: topic 10", INDEX, () -> page.ruling(0, 10, true));
        Check.fails("17: topic -1", INDEX, () -> page.ruling(0, -1, true));
        Check.fails("17: author 12", INDEX, () -> page.ruling(12, 0, true));
        Check.fails("17: author -1", INDEX, () -> page.ruling(-1, 0, true));
        for (int wild : WILD) {
            Check.fails("17: topic " + wild, INDEX, () -> page.ruling(0, wild, true));
            Check.fails("17: author " + wild, INDEX, () -> page.ruling(wild, 0, true));
        }
        Check.due("17: nothing came", page.ruling(0, 0, true), 2);
        GlossedPage few = new GlossedPage();
        few.author(0, 0, 0);
        Check.fails("17: author 1 of 1", INDEX, () -> few.ruling(1, 0, true));
    }

    private static void follow() {
        GlossedPage page = new GlossedPage();
        Check.fails("18: kind 4", ARGUMENT, () -> page.follow(4, 0));
        Check.fails("18: kind -1", ARGUMENT, () -> page.follow(-1, 0));
        Check.fails("18: school 4", ARGUMENT, () -> page.follow(SCHOOL, 4));
        Check.fails("18: school -1", ARGUMENT, () -> page.follow(SCHOOL, -1));
        Check.fails("18: topic 10", ARGUMENT, () -> page.follow(EXCEPT, 20));
        Check.fails("18: what -1", ARGUMENT, () -> page.follow(EXCEPT, -1));
        Check.due("18: school", page.follow(SCHOOL, 3), 1);
        Check.due("18: LATEST, it does not matter", page.follow(LATEST, Integer.MIN_VALUE), 2);
        Check.due("18: MOST, it does not matter", page.follow(MOST, Integer.MAX_VALUE), 3);
        Check.due("18: EXCEPT", page.follow(EXCEPT, 19), 4);
        Check.due("18: EXCEPT", page.follow(EXCEPT, 0), 5);
        Check.due("18: the last one", page.follow(SCHOOL, 0), 6);
        Check.fails("18: one more", STATE, () -> page.follow(LATEST, 0));
        Check.fails("18: a wrong one more", ARGUMENT, () -> page.follow(SCHOOL, 4));
        Check.due("18: topic 9, yes", page.decided(9), 31);
        Check.due("18: topic 0, no", page.decided(0), 40);
    }

    private static void unfollow() {
        GlossedPage page = new GlossedPage();
        page.author(1, 0, 0);
        page.ruling(0, 3, true);
        page.follow(EXCEPT, 6);
        page.follow(SCHOOL, 0);
        page.follow(LATEST, 0);
        page.follow(MOST, 0);
        Check.fails("19: place 4 of 4", INDEX, () -> page.unfollow(4));
        Check.fails("19: place -1", INDEX, () -> page.unfollow(-1));
        for (int wild : WILD) {
            Check.fails("19: place " + wild, INDEX, () -> page.unfollow(wild));
        }
        Check.due("19: nothing went", page.decided(3), 0);
        Check.due("19: the first", page.unfollow(0), EXCEPT);
        Check.due("19: those behind it move up", page.decided(3), 1);
        Check.due("19: one between", page.unfollow(1), LATEST);
        Check.due("19: the last", page.unfollow(1), MOST);
        Check.due("19: the one left", page.unfollow(0), SCHOOL);
        Check.fails("19: none left", INDEX, () -> page.unfollow(0));
        for (int n = 1; n <= 6; n++) {
            Check.due("19: there is room again", page.follow(n == 6 ? MOST : LATEST, 0), n);
        }
        Check.due("19: the last of six", page.unfollow(5), MOST);
        Check.due("19: the first of five", page.unfollow(0), LATEST);
    }

    private static void decided() {
        GlossedPage page = new GlossedPage();
        page.author(100, 0, 0);
        page.author(200, 0, 0);
        page.author(200, 0, 0);
        page.author(300, 1, 0);
        page.author(50, 2, 0);
        page.follow(EXCEPT, 9);
        page.follow(SCHOOL, 0);
        page.follow(MOST, 0);
        page.follow(LATEST, 0);
        Check.due("20: nobody ruled", page.decided(3), NONE);
        Check.due("20: as told for its topic", page.decided(4), 1);
        page.ruling(4, 3, true);
        Check.due("20: most, of one", page.decided(3), 21);
        page.ruling(3, 3, false);
        Check.due("20: no more one than the other, so the latest", page.decided(3), 30);
        page.ruling(0, 3, true);
        Check.due("20: the school", page.decided(3), 11);
        page.ruling(2, 3, false);
        Check.due("20: the latest of the school", page.decided(3), 10);
        page.ruling(1, 3, true);
        Check.due("20: of several the lowest", page.decided(3), 11);
        Check.due("20: another topic", page.decided(2), NONE);
        page.unfollow(1);
        Check.due("20: most, of five", page.decided(3), 11);
        page.unfollow(1);
        Check.due("20: the latest of all", page.decided(3), 10);
        page.follow(SCHOOL, 3);
        page.ruling(3, 9, true);
        page.ruling(4, 9, false);
        Check.due("20: the first that tells something", page.decided(9), 11);
        page.unfollow(1);
        Check.due("20: a school in which nobody ruled", page.decided(9), NONE);
        Check.fails("20: topic 10", INDEX, () -> page.decided(10));
        Check.fails("20: topic -1", INDEX, () -> page.decided(-1));
        decidedByMost();
    }

    private static void decidedByMost() {
        GlossedPage page = new GlossedPage();
        page.follow(LATEST, 0);
        page.follow(MOST, 0);
        page.unfollow(0);
        page.follow(LATEST, 0);
        for (int author = 0; author < 3; author++) {
            page.author(author, 0, 0);
            page.ruling(author, 0, author == 2);
        }
        Check.due("20: more ruled no", page.decided(0), 0);
        page.unfollow(0);
        Check.due("20: the latest ruled yes", page.decided(0), 1);
    }

    private static void edition() {
        GlossedPage page = new GlossedPage();
        Check.fails("21: no units", STATE, () -> page.edition(1, 1));
        Check.fails("21: a wrong one without units", ARGUMENT, () -> page.edition(0, 1));
        addUnit(page, 1);
        Check.fails("21: width 0", ARGUMENT, () -> page.edition(0, 1));
        Check.fails("21: width 13", ARGUMENT, () -> page.edition(13, 1));
        Check.fails("21: height 0", ARGUMENT, () -> page.edition(1, 0));
        Check.fails("21: height 61", ARGUMENT, () -> page.edition(1, 61));
        for (int wild : WILD) {
            Check.fails("21: width " + wild, ARGUMENT, () -> page.edition(wild, 1));
            Check.fails("21: height " + wild, ARGUMENT, () -> page.edition(1, wild));
        }
        for (int edition = 0; edition < 8; edition++) {
            Check.due("21: edition", page.edition(edition % 2 == 0 ? 1 : 12, edition < 4 ? 1 : 60), edition);
        }
        Check.fails("21: edition 8", STATE, () -> page.edition(1, 1));
        Check.fails("21: a wrong edition 8", ARGUMENT, () -> page.edition(1, 61));
        Check.fails("21: no edition 8", INDEX, () -> page.pages(8));
    }

    private static void address() {
        GlossedPage page = pageWith(1, 2, 3);
        addUnit(page, 4, 5, 6, 7);
        addUnit(page, 8);
        page.edition(2, 3);
        Check.due("22: the first unit", page.address(0, 0), 0);
        Check.due("22: behind two lines", page.address(0, 1), 2);
        Check.due("22: on the next page", page.address(0, 2), 101);
        page.edition(12, 60);
        Check.due("22: a line each", page.address(1, 2), 2);
        page.edition(1, 1);
        Check.due("22: a page each word", page.address(2, 2), 700);
        page.emend(0, 0, NONE);
        addUnit(page, 9);
        Check.due("22: as the text was then", page.address(2, 2), 700);
        Check.due("22: a unit that came later", page.address(2, 3), NONE);
        page.edition(1, 1);
        Check.due("22: as the text is now", page.address(3, 2), 600);
        Check.due("22: the unit that came later", page.address(3, 3), 700);
        note(page, 0, 2, 1, 9, INNER);
        note(page, 0, 3, 1, 9, INNER);
        Check.due("22: as the notes were then", page.address(3, 2), 600);
        page.edition(1, 4);
        Check.due("22: rows without text count", page.address(4, 1), 202);
        Check.fails("22: edition 5 of 5", INDEX, () -> page.address(5, 0));
        Check.fails("22: edition -1", INDEX, () -> page.address(-1, 0));
        Check.fails("22: unit 4 of 4", INDEX, () -> page.address(0, 4));
        Check.fails("22: unit -1", INDEX, () -> page.address(0, -1));
        for (int wild : WILD) {
            Check.fails("22: edition " + wild, INDEX, () -> page.address(wild, 0));
            Check.fails("22: unit " + wild, INDEX, () -> page.address(0, wild));
        }
    }

    private static void pages() {
        GlossedPage page = pageWith(1, 2, 3, 4, 5, 6);
        page.edition(1, 3);
        Check.due("23: full pages", page.pages(0), 2);
        page.edition(1, 4);
        Check.due("23: the last page not full", page.pages(1), 2);
        page.edition(1, 5);
        Check.due("23: one line on it", page.pages(2), 2);
        page.edition(1, 6);
        Check.due("23: one page", page.pages(3), 1);
        note(page, 0, 6, 1, 9, OUTER);
        page.edition(1, 6);
        Check.due("23: notes run on", page.pages(4), 3);
        Check.due("23: as it was then", page.pages(3), 1);
        note(page, 0, 1, 1, 9, INNER);
        note(page, 0, 1, 1, 9, INNER);
        page.edition(1, 6);
        Check.due("23: notes of the other margin", page.pages(5), 3);
        note(page, 0, 2, 1, 1, INNER);
        page.edition(1, 6);
        Check.due("23: a line that waits for its margin", page.pages(6), 6);
        Check.fails("23: edition 7 of 7", INDEX, () -> page.pages(7));
        Check.fails("23: edition -1", INDEX, () -> page.pages(-1));
    }

    private static void row() {
        GlossedPage page = pageWith(1, 2, 3, 4);
        addUnit(page, 5, 6);
        int first = note(page, 0, 2, 1, 3, INNER);
        Check.due("24: no edition", page.row(first), NONE);
        page.edition(2, 1);
        int second = note(page, 0, 1, 1, 2, INNER);
        int third = note(page, 0, 1, 1, 2, OUTER);
        int onFirst = page.gloss(0, first, NOTE, 4, OUTER);
        Check.due("24: the first one", page.row(first), 0);
        Check.due("24: by number, not by place", page.row(second), 3);
        Check.due("24: the other margin", page.row(third), 0);
        Check.due("24: one on a comment", page.row(onFirst), 2);
        int below = note(page, 1, 5, 1, 1, INNER);
        Check.due("24: begins beside its line, which waits", page.row(below), 5);
        page.edition(12, 2);
        Check.due("24: by the latest edition", page.row(below), 5);
        page.emend(0, 1, 9);
        Check.due("24: LOST", page.row(first), NONE);
        Check.due("24: LOST with that", page.row(onFirst), NONE);
        Check.due("24: a LOST one takes no lines", page.row(second), 0);
        Check.due("24: nor below", page.row(below), 2);
        page.edition(4, 2);
        page.emend(1, 0, 2);
        page.emend(1, 0, 5);
        Check.due("24: LOST and found again", page.row(below), 2);
        Check.fails("24: comment 5 of 5", INDEX, () -> page.row(5));
        Check.fails("24: comment -1", INDEX, () -> page.row(-1));
    }

    private static void rowOfTwoMargins() {
        GlossedPage page = pageWith(1, 2, 3, 4, 5);
        page.edition(1, 60);
        int inner = note(page, 0, 1, 1, 4, INNER);
        int outer = note(page, 0, 2, 1, 6, OUTER);
        int both = note(page, 0, 4, 1, 1, INNER);
        Check.due("24: a free margin", page.row(outer), 1);
        Check.due("24: a margin that is free again", page.row(both), 4);
        int bothOuter = note(page, 0, 4, 1, 1, OUTER);
        Check.due("24: both margins must be free", page.row(both), 7);
        Check.due("24: and begin together", page.row(bothOuter), 7);
        int last = note(page, 0, 5, 1, 1, INNER);
        Check.due("24: the line behind", page.row(last), 8);
        Check.due("24: the first", page.row(inner), 0);
        Check.due("24: a line without notes waits for nothing", page.edition(1, 1), 1);
        int third = note(page, 0, 3, 1, 2, OUTER);
        Check.due("24: beside the third line", page.row(third), 7);
        Check.due("24: the fourth line waits for it", page.row(bothOuter), 9);
    }

    private static void holds() {
        GlossedPage page = pageWith(1, 2, 3);
        addUnit(page, 4, 5);
        addUnit(page, 6);
        page.edition(1, 3);
        Check.due("25: the edition 0 itself", page.holds(0), 3);
        page.edition(2, 2);
        Check.due("25: other rows, the same pages", page.holds(1), 3);
        page.edition(3, 3);
        Check.due("25: all on one page", page.holds(2), 1);
        addUnit(page, 7);
        page.edition(1, 3);
        Check.due("25: a unit that came later does not count", page.holds(3), 3);
        page.emend(0, 2, NONE);
        page.edition(1, 3);
        Check.due("25: a word less", page.holds(4), 2);
        Check.fails("25: edition 5 of 5", INDEX, () -> page.holds(5));
        Check.fails("25: edition -1", INDEX, () -> page.holds(-1));
    }

    private static void daily() {
        GlossedPage page = pageWith(1);
        Check.due("26: no edition", page.daily(0), 0);
        Check.fails("26: day -1 without editions", ARGUMENT, () -> page.daily(-1));
        addUnit(page, 2, 3, 4, 5);
        addUnit(page, 6);
        page.edition(1, 2);
        Check.due("26: two units on a page", page.daily(0), 1 + 2);
        Check.due("26: none begins on it", page.daily(1), 0);
        Check.due("26: the last page", page.daily(2), 4);
        Check.due("26: and again", page.daily(3), 1 + 2);
        Check.due("26: the last day", page.daily(100000), 0);
        page.edition(1, 60);
        Check.due("26: by the latest edition", page.daily(7), 1 + 2 + 4);
        addUnit(page, 7);
        Check.due("26: a unit that came later", page.daily(0), 1 + 2 + 4);
        for (int unit = 4; unit < 20; unit++) {
            addUnit(page, 8);
        }
        page.edition(12, 60);
        Check.due("26: all units", page.daily(0), (1 << 20) - 1);
        note(page, 0, 1, 1, 9, INNER);
        page.edition(12, 20);
        Check.due("26: of one page", page.daily(1), (1 << 20) - 1);
        note(page, 19, 8, 1, 9, INNER);
        page.edition(12, 20);
        Check.due("26: to the second page only a note runs on", page.daily(1), 0);
        Check.fails("26: day -1", ARGUMENT, () -> page.daily(-1));
        Check.fails("26: day 100001", ARGUMENT, () -> page.daily(100001));
        for (int wild : WILD) {
            Check.fails("26: day " + wild, ARGUMENT, () -> page.daily(wild));
        }
    }
}
