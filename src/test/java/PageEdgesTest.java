import java.util.Arrays;

/** The edges that the document names of the promises 21 to 26: editions, addresses, pages, rows of notes, days. */
public final class PageEdgesTest extends Pages {
    private PageEdgesTest() {
    }

    public static void main(String[] args) {
        editionEnds();
        editionWithoutUnits();
        atMost8Editions();
        refusedEditionsSetNothing();
        linesByWidth();
        addressEnds();
        addressAtTheEndOfAPage();
        addressOfLaterUnits();
        addressAsTheTextWas();
        fullText();
        pagesByHeight();
        pagesByNotes();
        pagesOfTheMostNotes();
        rowEnds();
        rowOfLost();
        rowByNumbers();
        rowByLines();
        rowWaitsForItsMargin();
        rowWaitsForBothMargins();
        rowBehindALineThatWaited();
        rowAsTheTextIs();
        rowByTheLatestEdition();
        holdsEnds();
        holdsOfLaterUnits();
        dailyEnds();
        dailyOfNotes();
        dailyByTheLatestEdition();
        Check.close();
    }

    /** A page with units of so many words; the words of each are its own: 1, 2 and so on. */
    private static GlossedPage pageOf(int... lengths) {
        GlossedPage page = new GlossedPage();
        for (int length : lengths) {
            for (int word = 1; word <= length; word++) {
                page.word(word);
            }
            page.unit();
        }
        page.author(1000, 0, 0);
        return page;
    }

    private static int[] same(int count, int length) {
        int[] lengths = new int[count];
        Arrays.fill(lengths, length);
        return lengths;
    }

    // ---- 21: edition

    private static void editionEnds() {
        GlossedPage page = pageOf(12);
        Check.fails("21: width 0", ARGUMENT, () -> page.edition(0, 1));
        Check.fails("21: width 13", ARGUMENT, () -> page.edition(13, 1));
        Check.fails("21: height 0", ARGUMENT, () -> page.edition(1, 0));
        Check.fails("21: height 61", ARGUMENT, () -> page.edition(1, 61));
        Check.fails("23: none of those came", INDEX, () -> page.pages(0));
        Check.due("21: width 1, height 1", page.edition(1, 1), 0);
        Check.due("21: width 12, height 60", page.edition(12, 60), 1);
        Check.due("21: width 1, height 60", page.edition(1, 60), 2);
        Check.due("21: width 12, height 1", page.edition(12, 1), 3);
        int[] due = {12, 1, 1, 1};
        for (int edition = 0; edition < 4; edition++) {
            Check.due("23: the pages of the edition " + edition, page.pages(edition), due[edition]);
        }
    }

    private static void editionWithoutUnits() {
        GlossedPage page = new GlossedPage();
        Check.fails("21: there are no units", STATE, () -> page.edition(1, 1));
        page.word(1);
        Check.fails("21: there is a pad alone", STATE, () -> page.edition(12, 60));
        page.unit();
        Check.due("21: there is one", page.edition(1, 1), 0);
    }

    private static void atMost8Editions() {
        GlossedPage page = pageOf(8);
        for (int edition = 0; edition < 8; edition++) {
            Check.due("21: an edition more", page.edition(1, 1 + edition), edition);
        }
        Check.fails("21: there are 8", STATE, () -> page.edition(8, 1));
        Check.fails("23: no edition 8 came", INDEX, () -> page.pages(8));
        int[] due = {8, 4, 3, 2, 2, 2, 2, 1};
        for (int edition = 0; edition < 8; edition++) {
            Check.due("23: the edition " + edition + " stays", page.pages(edition), due[edition]);
        }
        Check.due("26: the latest is the eighth", page.daily(7), 1);
    }

    private static void refusedEditionsSetNothing() {
        GlossedPage page = pageOf(3);
        int last = note(page, 0, 3, 1, 1, INNER);
        Check.fails("21: refused ahead of the first", ARGUMENT, () -> page.edition(1, 61));
        Check.due("24: there is no edition", page.row(last), NONE);
        Check.due("26: there is no edition", page.daily(0), 0);
        for (int edition = 0; edition < 8; edition++) {
            page.edition(1, 1);
            Check.fails("21: refused behind it", ARGUMENT, () -> page.edition(3, 61));
            Check.due("24: the width is that of the latest", page.row(last), 2);
        }
        Check.fails("21: a ninth", STATE, () -> page.edition(3, 1));
        Check.due("24: the width is that of the eighth", page.row(last), 2);
        Check.due("26: the pages are those of the eighth", page.daily(2), 0);
    }

    private static void dueLines(int due, int width, int... lengths) {
        GlossedPage page = pageOf(lengths);
        page.edition(width, 1);
        Check.due("21: lines of " + width + " words of " + Arrays.toString(lengths), page.pages(0), due);
    }

    private static void linesByWidth() {
        dueLines(12, 1, 12);
        dueLines(6, 2, 12);
        dueLines(3, 5, 12);
        dueLines(2, 6, 12);
        dueLines(2, 11, 12);
        dueLines(1, 12, 12);
        dueLines(1, 12, 1);
        dueLines(1, 1, 1);
        dueLines(2, 2, 3);
        dueLines(2, 12, 1, 1);
        dueLines(4, 3, 3, 4, 2);
        dueLines(20, 12, same(20, 1));
    }

    // ---- 22: address

    private static void addressEnds() {
        GlossedPage page = pageOf(1, 1);
        Check.fails("22: there is no edition", INDEX, () -> page.address(0, 0));
        page.edition(1, 1);
        Check.due("22: the first unit", page.address(0, 0), 0);
        Check.due("22: the last unit", page.address(0, 1), 100);
        Check.fails("22: unit 2 of 2", INDEX, () -> page.address(0, 2));
        Check.fails("22: unit -1", INDEX, () -> page.address(0, -1));
        Check.fails("22: edition 1 of 1", INDEX, () -> page.address(1, 0));
        Check.fails("22: edition -1", INDEX, () -> page.address(-1, 0));
        for (int edition = 1; edition < 8; edition++) {
            page.edition(1, 2);
        }
        Check.due("22: the last edition", page.address(7, 1), 1);
        Check.fails("22: edition 8 of 8", INDEX, () -> page.address(8, 0));
    }

    private static void addressAtTheEndOfAPage() {
        GlossedPage page = pageOf(12, 12, 12, 12, 11, 1, 1);
        page.edition(1, 60);
        Check.due("22: on the last row of 60", page.address(0, 5), 59);
        Check.due("22: on the first row of the next page", page.address(0, 6), 100);
        page.edition(1, 59);
        Check.due("22: one row less on a page", page.address(1, 5), 100);
        Check.due("22: and the row behind it", page.address(1, 6), 101);
    }

    private static void addressOfLaterUnits() {
        GlossedPage page = pageOf(1);
        page.edition(1, 1);
        addUnit(page, 1);
        page.edition(1, 1);
        addUnit(page, 1);
        Check.due("22: it came behind the edition 0", page.address(0, 1), NONE);
        Check.due("22: it came ahead of the edition 1", page.address(1, 1), 100);
        Check.due("22: it came behind both", page.address(1, 2), NONE);
        Check.fails("22: it is not there yet", INDEX, () -> page.address(1, 3));
        page.edition(1, 1);
        Check.due("22: in the latest it is", page.address(2, 2), 200);
        Check.due("22: in the edition 0 it is not", page.address(0, 2), NONE);
    }

    private static void addressAsTheTextWas() {
        GlossedPage page = pageOf(3, 1);
        int lost = note(page, 0, 1, 1, 5, INNER);
        note(page, 1, 1, 1, 1, INNER);
        page.edition(1, 60);
        Check.due("22: it waits for the note", page.address(0, 1), 5);
        page.emend(0, 0, 9);
        page.emend(0, 2, NONE);
        note(page, 0, 9, 1, 9, OUTER);
        Check.due("22: as the text was then", page.address(0, 1), 5);
        Check.due("23: as it was then", page.pages(0), 1);
        Check.due("24: but LOST now", page.row(lost), NONE);
        page.edition(1, 60);
        Check.due("22: as the text is in the edition 1", page.address(1, 1), 2);
    }

    private static void fullText() {
        GlossedPage page = pageOf(same(20, 12));
        page.edition(1, 60);
        page.edition(1, 1);
        page.edition(12, 20);
        page.edition(12, 19);
        int[] due = {0, 48, 100, 300, 348};
        int[] units = {0, 4, 5, 15, 19};
        for (int n = 0; n < 5; n++) {
            Check.due("22: 240 rows on 4 pages", page.address(0, units[n]), due[n]);
        }
        Check.due("22: 240 rows on 240 pages", page.address(1, 19), 22800);
        Check.due("22: 20 rows on a page", page.address(2, 19), 19);
        Check.due("22: 20 rows, 19 on a page", page.address(3, 19), 100);
        int[] pages = {4, 240, 1, 2};
        int[] held = {20, 1, 5, 5};
        for (int edition = 0; edition < 4; edition++) {
            Check.due("23: pages of the edition " + edition, page.pages(edition), pages[edition]);
            Check.due("25: held by the edition " + edition, page.holds(edition), held[edition]);
        }
        Check.due("26: all but the last", page.daily(0), (1 << 19) - 1);
        Check.due("26: the last", page.daily(1), 1 << 19);
    }

    // ---- 23: pages

    private static void pagesByHeight() {
        int[][] rows = {{1, 9}, {2, 5}, {3, 3}, {4, 3}, {5, 2}, {8, 2}, {9, 1}, {10, 1}, {60, 1}};
        for (int[] row : rows) {
            GlossedPage text = pageOf(9);
            Check.fails("23: there is no edition", INDEX, () -> text.pages(0));
            text.edition(1, row[0]);
            Check.due("23: 9 lines, " + row[0] + " on a page", text.pages(0), row[1]);
            Check.fails("23: edition 1 of 1", INDEX, () -> text.pages(1));
            Check.fails("23: edition -1", INDEX, () -> text.pages(-1));
            GlossedPage notes = pageOf(1);
            note(notes, 0, 1, 1, 9, OUTER);
            notes.edition(1, row[0]);
            Check.due("23: a note of 9 lines, " + row[0] + " on a page", notes.pages(0), row[1]);
        }
    }

    /** How many rows three lines of a word each take, with notes: rows of word, lines, margin. */
    private static void dueRows(String what, int due, int[]... notes) {
        GlossedPage page = pageOf(3);
        for (int[] note : notes) {
            note(page, 0, note[0], 1, note[1], note[2]);
        }
        page.edition(1, 1);
        Check.due("23: " + what, page.pages(0), due);
    }

    private static int[] of(int word, int lines, int margin) {
        return new int[] {word, lines, margin};
    }

    private static void pagesByNotes() {
        dueRows("no notes", 3);
        dueRows("a note as long as the text", 3, of(1, 3, INNER));
        dueRows("a note one longer", 4, of(1, 4, INNER));
        dueRows("a note of one line at the last line", 3, of(3, 1, OUTER));
        dueRows("a note of two lines at the last line", 4, of(3, 2, OUTER));
        dueRows("two notes, one below the other", 18, of(1, 9, INNER), of(1, 9, INNER));
        dueRows("two notes at two margins, INNER longer", 9, of(1, 9, INNER), of(1, 8, OUTER));
        dueRows("two notes at two margins, OUTER longer", 9, of(1, 8, INNER), of(1, 9, OUTER));
        dueRows("the last line waits, its note ends below", 10, of(1, 9, INNER), of(3, 1, INNER));
        dueRows("the line between waits, the last is below", 11, of(1, 9, INNER), of(2, 1, INNER));
        dueRows("each waits for the one ahead", 27, of(1, 9, OUTER), of(2, 9, OUTER), of(3, 9, OUTER));
    }

    private static void pagesOfTheMostNotes() {
        GlossedPage page = pageOf(1, 1);
        note(page, 1, 1, 1, 9, INNER);
        for (int n = 1; n < 60; n++) {
            page.gloss(0, 0, NOTE, 9, INNER);
        }
        page.edition(1, 60);
        page.edition(1, 1);
        Check.due("23: 541 rows, 60 on a page", page.pages(0), 10);
        Check.due("23: 541 rows, 1 on a page", page.pages(1), 541);
        Check.due("24: the 60th note", page.row(59), 1 + 59 * 9);
        Check.fails("24: comment 60 of 60", INDEX, () -> page.row(60));
        Check.due("26: no unit begins on the last page", page.daily(540), 0);
        Check.due("26: behind it comes the first", page.daily(541), 1);
    }

    // ---- 24: row

    private static void rowEnds() {
        GlossedPage page = pageOf(1);
        Check.fails("24: there is no comment", INDEX, () -> page.row(0));
        int note = note(page, 0, 1, 1, 1, INNER);
        Check.due("24: there is no edition", page.row(note), NONE);
        page.edition(1, 1);
        Check.due("24: the first row", page.row(note), 0);
        Check.fails("24: comment 1 of 1", INDEX, () -> page.row(1));
        Check.fails("24: comment -1", INDEX, () -> page.row(-1));
    }

    private static void rowOfLost() {
        GlossedPage page = pageOf(2);
        int hook = note(page, 0, 1, 1, 3, INNER);
        int gloss = page.gloss(0, hook, NOTE, 2, INNER);
        int upper = page.gloss(0, gloss, NOTE, 2, OUTER);
        int other = note(page, 0, 2, 1, 1, INNER);
        page.edition(2, 1);
        Check.due("24: below those of 3 and 2 lines", page.row(other), 5);
        Check.due("24: at the other margin", page.row(upper), 0);
        page.emend(0, 0, 9);
        Check.due("24: it is LOST", page.row(hook), NONE);
        Check.due("24: the one on it is LOST", page.row(gloss), NONE);
        Check.due("24: the one on that is LOST", page.row(upper), NONE);
        Check.due("24: LOST ones have no notes", page.row(other), 0);
        page.emend(0, 0, 1);
        Check.due("24: it is not LOST any more", page.row(hook), 0);
        Check.due("24: it has its lines again", page.row(other), 5);
    }

    private static void rowByNumbers() {
        GlossedPage page = pageOf(3);
        int last = note(page, 0, 3, 1, 4, INNER);
        int first = note(page, 0, 1, 1, 1, INNER);
        int outer = note(page, 0, 2, 1, 9, OUTER);
        int onLast = page.gloss(0, last, NOTE, 1, INNER);
        int onOuter = page.gloss(0, outer, NOTE, 2, OUTER);
        page.edition(3, 1);
        Check.due("24: the lowest number begins beside the line", page.row(last), 0);
        Check.due("24: the next one below it", page.row(first), 4);
        Check.due("24: one on a comment below both", page.row(onLast), 5);
        Check.due("24: the lowest number of the other margin", page.row(outer), 0);
        Check.due("24: the next one there", page.row(onOuter), 9);
    }

    /** Twelve words with a note of one line each, all at one margin or at both in turn. */
    private static GlossedPage pageOfTwelveNotes(boolean isInTurn) {
        GlossedPage page = pageOf(12);
        for (int word = 1; word <= 12; word++) {
            note(page, 0, word, 1, 1, isInTurn ? word % 2 : INNER);
        }
        return page;
    }

    private static void rowByLines() {
        for (int width : new int[] {1, 2, 3, 4, 6, 12}) {
            GlossedPage one = pageOfTwelveNotes(false);
            GlossedPage both = pageOfTwelveNotes(true);
            one.edition(width, 1);
            both.edition(width, 1);
            int rowsOfLine = (width + 1) / 2;
            for (int place = 0; place < 12; place++) {
                String what = "24: lines of " + width + " words, the note of the place " + place;
                Check.due(what + ", one margin", one.row(place), place);
                int due = place / width * rowsOfLine + place % width / 2;
                Check.due(what + ", both margins", both.row(place), due);
            }
        }
        GlossedPage rest = pageOfTwelveNotes(true);
        rest.edition(11, 1);
        Check.due("24: the last word alone waits for its own margin", rest.row(11), 5);
        Check.due("24: at the other one there are 6 notes", rest.row(10), 5);
    }

    /** Two lines, a note of so many lines at the first and one at the second: on which row that begins. */
    private static void dueSecond(int due, int lines, int margin, int ofSecond) {
        GlossedPage page = pageOf(1, 1);
        note(page, 0, 1, 1, lines, margin);
        int second = note(page, 1, 1, 1, 1, ofSecond);
        page.edition(1, 60);
        String what = "a note of " + lines + " lines, margins " + margin + " and " + ofSecond;
        Check.due("24: " + what, page.row(second), due);
        Check.due("22: " + what, page.address(0, 1), due);
    }

    private static void rowWaitsForItsMargin() {
        for (int margin = INNER; margin <= OUTER; margin++) {
            dueSecond(1, 1, margin, margin);
            dueSecond(2, 2, margin, margin);
            dueSecond(9, 9, margin, margin);
            dueSecond(1, 9, margin, 1 - margin);
        }
        GlossedPage page = pageOf(1, 1, 1);
        note(page, 0, 1, 1, 2, INNER);
        int third = note(page, 2, 1, 1, 1, INNER);
        page.edition(1, 60);
        Check.due("24: a line without notes waits for nothing", page.address(0, 1), 1);
        Check.due("24: just free again at the third line", page.row(third), 2);
        page.gloss(0, 0, NOTE, 1, INNER);
        Check.due("24: one line more, and it waits", page.row(third), 3);
    }

    private static void rowWaitsForBothMargins() {
        int[][] rows = {{1, 1, 1}, {3, 5, 5}, {5, 3, 5}, {4, 4, 4}, {1, 2, 2}, {2, 1, 2}};
        for (int[] row : rows) {
            GlossedPage page = pageOf(1, 1);
            note(page, 0, 1, 1, row[0], INNER);
            note(page, 0, 1, 1, row[1], OUTER);
            int inner = note(page, 1, 1, 1, 1, INNER);
            int outer = note(page, 1, 1, 1, 1, OUTER);
            page.edition(1, 60);
            String what = "notes of " + row[0] + " and " + row[1] + " lines ahead";
            Check.due("24: " + what + ", INNER", page.row(inner), row[2]);
            Check.due("24: " + what + ", OUTER", page.row(outer), row[2]);
        }
    }

    private static void rowBehindALineThatWaited() {
        GlossedPage page = pageOf(1, 1, 1, 1);
        note(page, 0, 1, 1, 5, INNER);
        note(page, 1, 1, 1, 2, INNER);
        page.edition(1, 60);
        Check.due("24: it waited", page.address(0, 1), 5);
        Check.due("24: the next row, from where the one ahead was", page.address(0, 2), 6);
        Check.due("24: and the next", page.address(0, 3), 7);
        int outer = note(page, 2, 1, 1, 1, OUTER);
        Check.due("24: the other margin is free", page.row(outer), 6);
        int inner = note(page, 3, 1, 1, 1, INNER);
        Check.due("24: just free again", page.row(inner), 7);
        int both = note(page, 2, 1, 1, 1, INNER);
        Check.due("24: it waits itself", page.row(both), 7);
        Check.due("24: its first note with it", page.row(outer), 7);
        Check.due("24: and the one behind it", page.row(inner), 8);
    }

    private static void rowAsTheTextIs() {
        GlossedPage page = new GlossedPage();
        addUnit(page, 1, 5, 1, 5);
        page.author(0, 0, 0);
        int note = note(page, 0, 1, 1, 1, INNER);
        page.edition(1, 1);
        page.emend(0, 0, 5);
        Check.due("24: the note drifted", page.row(note), 2);
        page.emend(0, 0, NONE);
        Check.due("24: a line less ahead of it", page.row(note), 1);
        Check.due("22: the edition stays as it was", page.address(0, 0), 0);
        Check.due("23: the edition stays as it was", page.pages(0), 4);
        addUnit(page, 1);
        int later = note(page, 1, 1, 1, 1, OUTER);
        Check.due("24: a unit that came later", page.row(later), 3);
    }

    private static void rowByTheLatestEdition() {
        GlossedPage page = pageOf(12);
        int last = note(page, 0, 12, 1, 1, INNER);
        int[] widths = {12, 1, 6, 11, 2, 5, 12, 1};
        int[] due = {0, 11, 1, 1, 5, 2, 0, 11};
        for (int edition = 0; edition < 8; edition++) {
            page.edition(widths[edition], 1 + edition);
            Check.due("24: lines of " + widths[edition] + " words", page.row(last), due[edition]);
        }
    }

    // ---- 25: holds

    private static void holdsEnds() {
        GlossedPage page = pageOf(same(20, 1));
        Check.fails("25: there is no edition", INDEX, () -> page.holds(0));
        page.edition(1, 20);
        Check.due("25: the edition 0, all 20", page.holds(0), 20);
        Check.fails("25: edition 1 of 1", INDEX, () -> page.holds(1));
        Check.fails("25: edition -1", INDEX, () -> page.holds(-1));
        int[] heights = {19, 21, 60, 1, 2, 10, 20};
        int[] due = {19, 20, 20, 1, 2, 10, 20};
        for (int n = 0; n < 7; n++) {
            page.edition(1, heights[n]);
            Check.due("25: " + heights[n] + " rows on a page", page.holds(n + 1), due[n]);
        }
        Check.fails("25: edition 8 of 8", INDEX, () -> page.holds(8));
    }

    private static void holdsOfLaterUnits() {
        GlossedPage page = pageOf(1);
        page.edition(1, 60);
        addUnit(page, 1);
        addUnit(page, 1);
        Check.due("25: later units have no address in it", page.holds(0), 1);
        page.edition(1, 60);
        Check.due("25: nor in both", page.holds(1), 1);
        addUnit(page, 1);
        page.edition(1, 1);
        Check.due("25: by the edition 0, not by the one ahead", page.holds(2), 1);
    }

    // ---- 26: daily

    private static void dailyEnds() {
        GlossedPage page = pageOf(1, 1, 1);
        Check.due("26: without editions", page.daily(0), 0);
        Check.due("26: without editions, the last day", page.daily(100000), 0);
        Check.fails("26: without editions, day -1", ARGUMENT, () -> page.daily(-1));
        Check.fails("26: without editions, day 100001", ARGUMENT, () -> page.daily(100001));
        page.edition(1, 1);
        int[] days = {0, 1, 2, 3, 4, 99998, 99999, 100000};
        int[] due = {1, 2, 4, 1, 2, 4, 1, 2};
        for (int n = 0; n < 8; n++) {
            Check.due("26: of three pages, day " + days[n], page.daily(days[n]), due[n]);
        }
        Check.fails("26: day -1", ARGUMENT, () -> page.daily(-1));
        Check.fails("26: day 100001", ARGUMENT, () -> page.daily(100001));
        page.edition(1, 3);
        for (int day : days) {
            Check.due("26: of one page, day " + day, page.daily(day), 7);
        }
    }

    private static void dailyOfNotes() {
        GlossedPage page = pageOf(2, 2, 2);
        note(page, 2, 2, 1, 4, OUTER);
        page.edition(1, 3);
        Check.due("23: the note runs on to a third page", page.pages(0), 3);
        Check.due("26: two units begin on the first", page.daily(0), 1 + 2);
        Check.due("26: one begins on the second", page.daily(1), 4);
        Check.due("26: none begins on the third", page.daily(2), 0);
        Check.due("26: behind it comes the first", page.daily(3), 1 + 2);
        GlossedPage wide = pageOf(3, 1);
        wide.edition(1, 1);
        Check.due("26: a unit is not read where it runs on", wide.daily(1), 0);
        Check.due("26: but where it begins", wide.daily(3), 2);
    }

    private static void dailyByTheLatestEdition() {
        GlossedPage page = pageOf(1, 1);
        page.edition(1, 1);
        page.edition(1, 2);
        Check.due("26: the latest has one page", page.daily(1), 1 + 2);
        addUnit(page, 1);
        Check.due("26: a unit that came later", page.daily(0), 1 + 2);
        note(page, 0, 1, 1, 9, INNER);
        Check.due("26: a note that came later", page.daily(1), 1 + 2);
        page.edition(1, 2);
        Check.due("26: it has five pages", page.pages(2), 5);
        Check.due("26: the first page", page.daily(5), 1 + 2);
        Check.due("26: the second page", page.daily(6), 4);
        Check.due("26: the last page", page.daily(4), 0);
        for (int unit = 3; unit < 20; unit++) {
            addUnit(page, 1);
        }
        page.edition(1, 60);
        Check.due("26: all 20 units", page.daily(100000), (1 << 20) - 1);
    }
}
