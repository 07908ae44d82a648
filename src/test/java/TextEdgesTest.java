/** The edges that the document names of the promises 1 to 8, 15 and 16: pad, units, emending, authors, quotations. */
public final class TextEdgesTest extends Pages {
    private TextEdgesTest() {
    }

    public static void main(String[] args) {
        nothingYet();
        firstNumbers();
        lastCalls();
        wordEnds();
        padAtMost12();
        wipeEnds();
        unitEnds();
        atMost20Units();
        emendEnds();
        onlyWord();
        onlyWordKeepsHooks();
        countOfHooks();
        countOfNone();
        nearestWhenEmended();
        nearestWhenItsWordIsTakenOut();
        takenOutAheadAndBehind();
        lostByTakingOut();
        lostIsMovedByTakingOut();
        lostIsNotMovedElse();
        lostUntilThereAgain();
        glossesAreLostWithTheirs();
        textOfEnds();
        authorEnds();
        atMost12Authors();
        meantEnds();
        meantOfSeveral();
        foundEnds();
        foundOfSeveral();
        likenessInOrder();
        exactEnds();
        Check.close();
    }

    private static GlossedPage pageOf20Units() {
        GlossedPage page = pageWith(1);
        for (int unit = 1; unit < 20; unit++) {
            addUnit(page, 2, unit);
        }
        return page;
    }

    // ---- 1: a new object

    private static void nothingYet() {
        GlossedPage page = new GlossedPage();
        Check.due("1: an empty pad", page.wipe(), 0);
        Check.due("1: nothing is found", page.found(), NONE);
        Check.due("1: nothing is exact", page.exact(), 0);
        Check.due("1: nobody is meant, lowest", page.meant(0, 0), NONE);
        Check.due("1: nobody is meant, highest", page.meant(99, 2000), NONE);
        for (int school = 0; school <= 3; school++) {
            Check.due("1: nothing is solved by school " + school, page.solved(school), 0);
        }
        for (int topic = 0; topic <= 9; topic++) {
            Check.due("1: nothing is decided of topic " + topic, page.decided(topic), NONE);
        }
        Check.due("1: nothing to be read on the first day", page.daily(0), 0);
        Check.due("1: nothing to be read on the last day", page.daily(100000), 0);
        page.word(0);
        Check.due("15: no units, a word on the pad", page.found(), NONE);
        Check.due("16: no units, a word on the pad", page.exact(), 0);
    }

    private static void firstNumbers() {
        GlossedPage page = new GlossedPage();
        Check.due("2: the first word", page.word(0), 1);
        Check.due("4: the first unit", page.unit(), 0);
        Check.due("7: the first author", page.author(0, 0, 0), 0);
        Check.due("9: the first comment", page.comment(0, 0, QUESTION, 0, 1, 1, INNER), 0);
        Check.due("10: the first on a comment", page.gloss(0, 0, QUESTION, 1, INNER), 1);
        Check.due("17: the first ruling", page.ruling(0, 0, false), 1);
        Check.due("18: the first rule", page.follow(SCHOOL, 0), 1);
        Check.due("20: the rule 0 tells no", page.decided(0), 0);
        Check.due("21: the first edition", page.edition(1, 1), 0);
        Check.due("22: the first address", page.address(0, 0), 0);
        Check.due("24: the first row", page.row(0), 0);
    }

    private static void lastCalls() {
        GlossedPage page = pageWith(1, 2);
        for (int calls = 4; calls < 510; calls++) {
            page.wipe();
        }
        Check.due("1: the call 511", page.word(7), 1);
        Check.due("1: the call 512", page.wipe(), 1);
    }

    // ---- 2 to 4: pad and units

    private static void wordEnds() {
        GlossedPage page = new GlossedPage();
        Check.fails("2: word -1", ARGUMENT, () -> page.word(-1));
        Check.due("2: word 0", page.word(0), 1);
        Check.due("2: word 59", page.word(59), 2);
        Check.fails("2: word 60", ARGUMENT, () -> page.word(60));
        Check.due("2: the same word again", page.word(59), 3);
        page.unit();
        Check.due("2: they are as they were put", textOf(page, 0), "0 59 59");
    }

    private static void padAtMost12() {
        GlossedPage page = new GlossedPage();
        for (int n = 1; n <= 12; n++) {
            Check.due("2: a word more", page.word(n), n);
        }
        Check.fails("2: it has 12", STATE, () -> page.word(13));
        page.unit();
        Check.due("2: the refused word is not there", textOf(page, 0), "1 2 3 4 5 6 7 8 9 10 11 12");
        Check.due("2: behind a unit there is room again", page.word(14), 1);
    }

    private static void wipeEnds() {
        GlossedPage page = new GlossedPage();
        page.word(5);
        Check.due("3: one word", page.wipe(), 1);
        Check.due("3: none is left", page.wipe(), 0);
        draft(page, 1, 1, 1, 1, 1, 1, 1, 1, 1, 1, 1, 1);
        Check.due("3: twelve words", page.wipe(), 12);
        Check.due("3: there is room again", page.word(6), 1);
        page.unit();
        Check.due("3: behind a unit the pad is empty", page.wipe(), 0);
        Check.due("3: the units stay", textOf(page, 0), "6");
    }

    private static void unitEnds() {
        GlossedPage page = new GlossedPage();
        Check.fails("4: the pad is empty", STATE, page::unit);
        page.word(7);
        Check.due("4: one word", page.unit(), 0);
        Check.fails("4: it is empty then", STATE, page::unit);
        draft(page, 1, 2, 3, 4, 5, 6, 7, 8, 9, 10, 11, 0);
        Check.due("4: twelve words", page.unit(), 1);
        Check.due("4: the unit of one word", textOf(page, 0), "7");
        Check.due("4: the unit of twelve words", textOf(page, 1), "1 2 3 4 5 6 7 8 9 10 11 0");
        Check.fails("4: no unit came of an empty pad", INDEX, () -> page.textOf(2, 0));
    }

    private static void atMost20Units() {
        GlossedPage page = new GlossedPage();
        for (int unit = 0; unit < 20; unit++) {
            page.word(unit);
            Check.due("4: a unit more", page.unit(), unit);
        }
        Check.fails("4: there are 20, and the pad is empty", STATE, page::unit);
        draft(page, 19, 8);
        Check.fails("4: there are 20", STATE, page::unit);
        Check.fails("4: no unit 20 came", INDEX, () -> page.textOf(20, 0));
        Check.due("4: the last unit stays", textOf(page, 19), "19");
        Check.due("4: the words stay on the pad", page.exact(), 66);
        Check.due("4: both of them", page.wipe(), 2);
    }

    // ---- 5: emend

    private static void emendEnds() {
        GlossedPage page = pageWith(1, 1, 1, 1, 1, 1, 1, 1, 1, 1, 1, 1);
        Check.fails("5: place -1", INDEX, () -> page.emend(0, -1, 2));
        Check.fails("5: place 12 of 12", INDEX, () -> page.emend(0, 12, 2));
        Check.fails("5: word -2", ARGUMENT, () -> page.emend(0, 0, -2));
        Check.fails("5: word 60", ARGUMENT, () -> page.emend(0, 0, 60));
        Check.due("5: nothing was emended", textOf(page, 0), "1 1 1 1 1 1 1 1 1 1 1 1");
        page.emend(0, 0, 0);
        page.emend(0, 11, 59);
        Check.due("5: first and last place, lowest and highest word", textOf(page, 0), "0 1 1 1 1 1 1 1 1 1 1 59");
        page.emend(0, 11, NONE);
        Check.due("5: the last one is taken out", textOf(page, 0), "0 1 1 1 1 1 1 1 1 1 1");
        Check.fails("5: its place is gone", INDEX, () -> page.emend(0, 11, 2));
        page.emend(0, 0, NONE);
        Check.due("5: the first one is taken out", textOf(page, 0), "1 1 1 1 1 1 1 1 1 1");

        GlossedPage wide = pageOf20Units();
        Check.due("5: the last unit", wide.emend(19, 1, 3), 0);
        Check.due("5: it is emended", textOf(wide, 19), "2 3");
        Check.due("5: the one ahead is not", textOf(wide, 18), "2 18");
        Check.fails("5: unit 20 of 20", INDEX, () -> wide.emend(20, 0, 3));
        Check.fails("5: place 1 of the unit 0", INDEX, () -> wide.emend(0, 1, 3));
    }

    private static void onlyWord() {
        GlossedPage page = pageWith(5, 6);
        Check.due("5: one of two is taken out", page.emend(0, 0, NONE), 0);
        Check.fails("5: the only one would be", STATE, () -> page.emend(0, 0, NONE));
        Check.due("5: it stays", textOf(page, 0), "6");
        Check.due("5: but it can be emended", page.emend(0, 0, 7), 0);
        Check.due("5: it is", textOf(page, 0), "7");
    }

    private static void onlyWordKeepsHooks() {
        GlossedPage page = pageWith(5);
        int hook = note(page, 0, 5, 1, 1, INNER);
        Check.fails("5: the only word of a hook", STATE, () -> page.emend(0, 0, NONE));
        Check.fails("5: or a wrong word instead", ARGUMENT, () -> page.emend(0, 0, 60));
        Check.due("5: the hook is not LOST", page.told(hook, 3), 0);
        page.emend(0, 0, 6);
        Check.fails("5: the only word of a LOST hook", STATE, () -> page.emend(0, 0, NONE));
        Check.due("5: the hook stays LOST", page.told(hook, 3), 1);
        Check.due("5: at its place", page.told(hook, 2), 0);
    }

    private static void countOfHooks() {
        GlossedPage page = pageWith(1, 2);
        addUnit(page, 1, 2);
        for (int n = 0; n < 59; n++) {
            note(page, 0, 1, 1, 1, INNER);
        }
        note(page, 1, 1, 1, 1, INNER);
        Check.due("5: 59 are LOST", page.emend(0, 0, 3), 59);
        Check.due("5: the one on the other unit is not", page.told(59, 3), 0);
        Check.due("5: they stay LOST", page.emend(0, 0, 4), 0);
        Check.due("5: 59 are not LOST any more", page.emend(0, 1, 1), 59);
        Check.due("5: 59 are LOST by taking out", page.emend(0, 1, NONE), 59);
        Check.due("5: and the other one", page.emend(1, 0, NONE), 1);

        GlossedPage both = pageWith(1, 3);
        note(both, 0, 1, 1, 1, INNER);
        Check.due("5: one is LOST", both.emend(0, 0, 2), 1);
        note(both, 0, 2, 1, 1, INNER);
        note(both, 0, 2, 1, 1, OUTER);
        Check.due("5: two LOST and one not any more, together", both.emend(0, 0, 1), 3);
    }

    private static void countOfNone() {
        GlossedPage page = pageWith(1, 2, 1);
        Check.due("5: without hooks", page.emend(0, 1, 3), 0);
        int hook = note(page, 0, 1, 1, 1, INNER);
        for (int n = 0; n < 3; n++) {
            page.gloss(0, hook, NOTE, 1, INNER);
        }
        Check.due("5: emended to the same word", page.emend(0, 0, 1), 0);
        Check.due("5: its word is there once more", page.emend(0, 0, 4), 0);
        Check.due("5: those on it have no hooks of their own", page.emend(0, 2, 4), 1);
        Check.due("5: nor when it is there again", page.emend(0, 1, 1), 1);
    }

    /** Where the hook on the nth 1 of the unit stands, behind a word of it emended to 7 or taken out. */
    private static void dueHook(String what, int nth, int place, int word, int duePlace, int... words) {
        GlossedPage page = pageWith(words);
        int hook = note(page, 0, 1, nth, 1, INNER);
        page.emend(0, place, word);
        Check.due("5: " + what + ", its place", page.told(hook, 2), duePlace);
    }

    private static void nearestWhenEmended() {
        dueHook("the next ones as near, 2 off", 2, 2, 7, 0, 1, 5, 1, 5, 1);
        dueHook("the next ones as near, 1 off", 2, 2, 7, 1, 5, 1, 1, 1);
        dueHook("the upper one is nearer", 2, 2, 7, 3, 1, 5, 1, 1);
        dueHook("the lower one is nearer", 2, 1, 7, 0, 1, 1, 5, 1);
        dueHook("the lower end is nearer", 2, 5, 7, 0, 1, 5, 5, 5, 5, 1, 5, 5, 5, 5, 5, 1);
        dueHook("the upper end is nearer", 2, 6, 7, 11, 1, 5, 5, 5, 5, 5, 1, 5, 5, 5, 5, 1);
        dueHook("from the first place to the last", 1, 0, 7, 11, 1, 5, 5, 5, 5, 5, 5, 5, 5, 5, 5, 1);
        dueHook("from the last place to the first", 2, 11, 7, 0, 1, 5, 5, 5, 5, 5, 5, 5, 5, 5, 5, 1);
        dueHook("its word comes ahead of it", 1, 0, 1, 1, 5, 1, 5);
        dueHook("its word comes behind it", 1, 2, 1, 1, 5, 1, 5);
        dueHook("emended to its own word", 1, 1, 1, 1, 5, 1, 5);
    }

    private static void nearestWhenItsWordIsTakenOut() {
        dueHook("it stood there, the upper one is nearer", 2, 2, NONE, 3, 1, 5, 1, 5, 1);
        dueHook("it stood there, both as near", 2, 1, NONE, 0, 1, 1, 5, 1);
        dueHook("it stood there, the next one came there", 2, 2, NONE, 2, 1, 5, 1, 1);
        dueHook("the first one, the next one came there", 1, 0, NONE, 0, 1, 1, 1);
        dueHook("the first one, another behind", 1, 0, NONE, 1, 1, 5, 1);
        dueHook("the last one, another right ahead", 3, 2, NONE, 1, 1, 1, 1);
        dueHook("the last one, another far ahead", 2, 3, NONE, 0, 1, 5, 5, 1);
        dueHook("the last one of twelve", 2, 11, NONE, 0, 1, 5, 5, 5, 5, 5, 5, 5, 5, 5, 5, 1);
        dueHook("one of two", 2, 1, NONE, 0, 1, 1);
    }

    private static void takenOutAheadAndBehind() {
        dueHook("one ahead is taken out, the first one", 1, 0, NONE, 0, 5, 1, 5);
        dueHook("one ahead is taken out, the one right ahead", 1, 1, NONE, 1, 5, 6, 1);
        dueHook("one ahead is taken out, it was the last", 2, 0, NONE, 10, 1, 5, 5, 5, 5, 5, 5, 5, 5, 5, 5, 1);
        dueHook("one ahead is taken out, one of its word", 2, 0, NONE, 0, 1, 1);
        dueHook("one behind is taken out, right behind", 1, 2, NONE, 1, 5, 1, 5, 5);
        dueHook("one behind is taken out, the last one", 1, 3, NONE, 1, 5, 1, 5, 5);
        dueHook("one behind is taken out, it is the first", 1, 1, NONE, 0, 1, 5);
        dueHook("one behind is taken out, one of its word", 1, 1, NONE, 0, 1, 1);
    }

    private static void lostByTakingOut() {
        int[][] rows = {{0, 0, 1, 5, 5}, {1, 1, 5, 1, 5}, {2, 1, 5, 5, 1}};
        for (int[] row : rows) {
            GlossedPage page = pageWith(row[2], row[3], row[4]);
            int hook = note(page, 0, 1, 1, 1, INNER);
            Check.due("5: LOST by taking out", page.emend(0, row[0], NONE), 1);
            Check.due("5: its word is not there any more", page.told(hook, 3), 1);
            Check.due("5: it stood there, at most at the last place", page.told(hook, 2), row[1]);
        }
        GlossedPage two = pageWith(5, 1);
        int hook = note(two, 0, 1, 1, 1, INNER);
        two.emend(0, 1, NONE);
        Check.due("5: the last of two is taken out", two.told(hook, 2), 0);
    }

    /** A hook that is LOST at the place 2 of five words, behind taking out one of them. */
    private static void dueLost(String what, int place, int duePlace) {
        GlossedPage page = pageWith(5, 6, 1, 7, 8);
        int hook = note(page, 0, 1, 1, 1, INNER);
        page.emend(0, 2, 9);
        Check.due("5: LOST, " + what + ", none is LOST or not any more", page.emend(0, place, NONE), 0);
        Check.due("5: LOST, " + what + ", its place", page.told(hook, 2), duePlace);
        Check.due("5: LOST, " + what + ", it stays LOST", page.told(hook, 3), 1);
    }

    private static void lostIsMovedByTakingOut() {
        dueLost("the first one is taken out", 0, 1);
        dueLost("the one right ahead is taken out", 1, 1);
        dueLost("the one where it stands is taken out", 2, 2);
        dueLost("the one right behind is taken out", 3, 2);
        dueLost("the last one is taken out", 4, 2);
        GlossedPage page = pageWith(5, 6, 1);
        int hook = note(page, 0, 1, 1, 1, INNER);
        page.emend(0, 2, 9);
        page.emend(0, 2, NONE);
        Check.due("5: LOST at the last place, that is taken out", page.told(hook, 2), 1);
        page.emend(0, 0, NONE);
        Check.due("5: LOST at the last place, the first is taken out", page.told(hook, 2), 0);

        GlossedPage first = pageWith(1, 5, 6);
        int atFirst = note(first, 0, 1, 1, 1, INNER);
        first.emend(0, 0, NONE);
        Check.due("5: LOST at the first place", first.told(atFirst, 2), 0);
        first.emend(0, 0, NONE);
        Check.due("5: not below the first place", first.told(atFirst, 2), 0);
    }

    private static void lostIsNotMovedElse() {
        GlossedPage page = pageWith(5, 6, 1, 7, 8);
        addUnit(page, 5, 6);
        int hook = note(page, 0, 1, 1, 1, INNER);
        page.emend(0, 2, 9);
        for (int place = 0; place < 5; place++) {
            page.emend(0, place, 10 + place);
            Check.due("5: LOST, emended at " + place, page.told(hook, 2), 2);
        }
        page.emend(1, 0, NONE);
        Check.due("5: LOST, taken out of another unit", page.told(hook, 2), 2);
        page.emend(1, 0, 1);
        Check.due("5: LOST, its word comes into another unit", page.told(hook, 3), 1);
    }

    private static void lostUntilThereAgain() {
        for (int place = 0; place < 5; place++) {
            GlossedPage page = pageWith(5, 6, 1, 7, 8);
            int hook = note(page, 0, 1, 1, 1, INNER);
            page.emend(0, 2, 9);
            Check.due("5: there again at " + place, page.emend(0, place, 1), 1);
            Check.due("5: not LOST any more", page.told(hook, 3), 0);
            Check.due("5: at the place of its word", page.told(hook, 2), place);
            Check.due("5: there a second time", page.emend(0, place == 2 ? 1 : 2, 1), 0);
            Check.due("5: it stays where it is", page.told(hook, 2), place);
            page.emend(0, place, 9);
            Check.due("5: then it comes to the second", page.told(hook, 2), place == 2 ? 1 : 2);
        }
    }

    private static void glossesAreLostWithTheirs() {
        GlossedPage page = pageWith(5, 1);
        int hook = note(page, 0, 1, 1, 1, INNER);
        int[] tower = new int[59];
        tower[0] = page.gloss(0, hook, NOTE, 1, INNER);
        for (int n = 1; n < 59; n++) {
            tower[n] = page.gloss(0, tower[n - 1], NOTE, 1, INNER);
        }
        Check.due("5: one hook is LOST", page.emend(0, 1, 6), 1);
        Check.due("5: the comment on it is", page.told(tower[0], 3), 1);
        Check.due("5: the uppermost of 60 is", page.told(tower[58], 3), 1);
        page.emend(0, 0, NONE);
        Check.due("5: the uppermost is moved with it", page.told(tower[58], 2), 0);
        Check.due("5: one hook is not LOST any more", page.emend(0, 0, 1), 1);
        Check.due("5: the comment on it is not", page.told(tower[0], 3), 0);
        Check.due("5: the uppermost is not", page.told(tower[58], 3), 0);
    }

    // ---- 6: textOf

    private static void textOfEnds() {
        GlossedPage page = pageOf20Units();
        Check.due("6: the first word of the last unit", page.textOf(19, 0), 2);
        Check.due("6: the last word of it", page.textOf(19, 1), 19);
        Check.due("6: there are not so many", page.textOf(19, 2), NONE);
        Check.due("6: not in the unit ahead", page.textOf(18, 2), NONE);
        Check.due("6: nor in the first one", page.textOf(0, 1), NONE);
        Check.fails("6: place -1 of the last unit", INDEX, () -> page.textOf(19, -1));
        Check.fails("6: unit 20 of 20", INDEX, () -> page.textOf(20, 0));
        Check.fails("6: unit -1", INDEX, () -> page.textOf(-1, 0));
        GlossedPage wide = pageWith(1, 2, 3, 4, 5, 6, 7, 8, 9, 10, 11, 12);
        addUnit(wide, 13);
        Check.due("6: the twelfth word", wide.textOf(0, 11), 12);
        Check.due("6: behind twelve words", wide.textOf(0, 12), NONE);
        Check.due("6: the highest place", wide.textOf(0, Integer.MAX_VALUE), NONE);
    }

    // ---- 7, 8: author, meant

    private static void authorEnds() {
        GlossedPage page = new GlossedPage();
        Check.due("7: the lowest of all", page.author(0, 0, 0), 0);
        Check.due("7: the highest of all", page.author(2000, 3, 99), 1);
        Check.fails("7: year -1", ARGUMENT, () -> page.author(-1, 0, 0));
        Check.fails("7: year 2001", ARGUMENT, () -> page.author(2001, 0, 0));
        Check.fails("7: school -1", ARGUMENT, () -> page.author(0, -1, 0));
        Check.fails("7: school 4", ARGUMENT, () -> page.author(0, 4, 0));
        Check.fails("7: initials -1", ARGUMENT, () -> page.author(0, 0, -1));
        Check.fails("7: initials 100", ARGUMENT, () -> page.author(0, 0, 100));
        Check.due("7: no number was lost by that", page.author(0, 0, 0), 2);
    }

    private static void atMost12Authors() {
        GlossedPage page = new GlossedPage();
        for (int author = 0; author < 12; author++) {
            Check.due("7: an author more", page.author(author, 1, 1), author);
        }
        Check.fails("7: there are 12", STATE, () -> page.author(99, 1, 1));
        Check.due("7: the last one is the 12th", page.meant(1, 2000), 11);
        Check.fails("7: no author 12 came", INDEX, () -> page.ruling(12, 0, true));
    }

    private static void meantEnds() {
        GlossedPage page = new GlossedPage();
        page.author(0, 0, 0);
        page.author(2000, 0, 99);
        page.author(1000, 0, 50);
        Check.due("8: the year 0", page.meant(0, 0), 0);
        Check.due("8: initials 0 in the year 2000", page.meant(0, 2000), 0);
        Check.due("8: the year 2000", page.meant(99, 2000), 1);
        Check.due("8: the year ahead", page.meant(99, 1999), NONE);
        Check.due("8: a year that is above", page.meant(50, 999), NONE);
        Check.due("8: a year that is not", page.meant(50, 1000), 2);
        Check.due("8: a year behind", page.meant(50, 1001), 2);
        Check.due("8: initials one lower", page.meant(49, 2000), NONE);
        Check.due("8: initials one higher", page.meant(51, 2000), NONE);
        Check.fails("8: initials -1", ARGUMENT, () -> page.meant(-1, 0));
        Check.fails("8: initials 100", ARGUMENT, () -> page.meant(100, 0));
        Check.fails("8: year -1", ARGUMENT, () -> page.meant(0, -1));
        Check.fails("8: year 2001", ARGUMENT, () -> page.meant(0, 2001));
    }

    private static void meantOfSeveral() {
        GlossedPage page = new GlossedPage();
        int[] years = {500, 700, 600, 700, 800, 800};
        for (int author = 0; author < 6; author++) {
            page.author(years[author], author % 4, 1);
        }
        Check.due("8: none is early enough", page.meant(1, 499), NONE);
        Check.due("8: the first one alone", page.meant(1, 599), 0);
        Check.due("8: the greatest year", page.meant(1, 600), 2);
        Check.due("8: of two with the greatest year the lowest", page.meant(1, 700), 1);
        Check.due("8: the greatest that is not above", page.meant(1, 799), 1);
        Check.due("8: the last two", page.meant(1, 800), 4);
    }

    // ---- 15, 16: found, exact

    private static void foundEnds() {
        GlossedPage page = pageOf20Units();
        Check.due("15: an empty pad", page.found(), NONE);
        Check.due("16: an empty pad", page.exact(), 0);
        page.word(59);
        Check.due("15: a likeness of 0", page.found(), NONE);
        Check.due("16: a likeness of 0", page.exact(), 0);
        page.word(1);
        Check.due("15: a likeness of 1", page.found(), 0);
        page.word(19);
        Check.due("15: of several the lowest", page.found(), 0);
        page.wipe();
        draft(page, 2, 19);
        Check.due("15: in the last unit", page.found(), 19);
        Check.due("15: the pad stays", page.wipe(), 2);
    }

    private static void foundOfSeveral() {
        GlossedPage page = pageWith(1, 9, 9, 9);
        addUnit(page, 2, 1);
        addUnit(page, 1);
        page.word(1);
        Check.due("15: of three the lowest", page.found(), 0);
        Check.due("16: by that, not by the most exact one", page.exact(), 40);
        page.emend(0, 0, 8);
        Check.due("15: of two the lower", page.found(), 1);
        Check.due("16: by that", page.exact(), 66);
        page.emend(1, 1, 8);
        Check.due("15: the only one", page.found(), 2);
        Check.due("16: all of it", page.exact(), 100);
        page.emend(2, 0, 8);
        Check.due("15: none any more", page.found(), NONE);
        Check.due("16: none any more", page.exact(), 0);
    }

    private static void dueExact(String what, int due, int[] pad, int... unit) {
        GlossedPage page = pageWith(unit);
        draft(page, pad);
        Check.due("16: " + what, page.exact(), due);
        Check.due("15: " + what, page.found(), due == 0 ? NONE : 0);
        Check.due("16: the pad stays", page.wipe(), pad.length);
    }

    private static void likenessInOrder() {
        dueExact("the same order", 100, new int[] {1, 2, 3}, 1, 2, 3);
        dueExact("the other order", 33, new int[] {1, 2, 3}, 3, 2, 1);
        dueExact("others between, in both", 54, new int[] {1, 9, 2, 9, 3}, 8, 1, 8, 2, 8, 3);
        dueExact("a word twice, there once", 66, new int[] {1, 1}, 1);
        dueExact("a word once, there twice", 66, new int[] {1}, 1, 1);
        dueExact("ends that are not both in it", 66, new int[] {1, 2, 1}, 2, 1, 2);
        dueExact("the greater of two ways", 60, new int[] {5, 1, 2, 3, 4}, 1, 2, 3, 9, 5);
    }

    private static void exactEnds() {
        int[] twelve = {1, 2, 3, 4, 5, 6, 7, 8, 9, 10, 11, 12};
        dueExact("12 of 12 words", 100, twelve, twelve);
        dueExact("12 words, 1 of them", 15, twelve, 12);
        dueExact("1 of 12 words", 15, new int[] {1}, twelve);
        dueExact("12 words, 1 of 12", 8, twelve, 12, 20, 20, 20, 20, 20, 20, 20, 20, 20, 20, 20);
        dueExact("12 words, 11 of 12", 91, twelve, 1, 2, 3, 4, 5, 6, 7, 8, 9, 10, 11, 20);
        dueExact("12 words, none of 12", 0, twelve, 20, 20, 20, 20, 20, 20, 20, 20, 20, 20, 20, 20);
        dueExact("1 of 1 word", 100, new int[] {0}, 0);
        dueExact("no word of an empty pad", 0, new int[0], 0);
    }
}
