import java.util.Arrays;

/** A text with its commentators around it, as ../shared/DOC.md tells it. */
public final class GlossedPage {
    public static final int NONE = -1;
    public static final int QUESTION = 0, OBJECTION = 1, PROOF = 2, ANSWER = 3, NOTE = 4;
    public static final int INNER = 0, OUTER = 1;
    public static final int SCHOOL = 0, LATEST = 1, MOST = 2, EXCEPT = 3;

    private static final int LAST_WORD = 59;
    private static final int ROW = 12;
    private static final int UNITS = 20;
    private static final int SLOTS = UNITS * ROW;
    private static final int AUTHORS = 12;
    private static final int LAST_YEAR = 2000;
    private static final int LAST_SCHOOL = 3;
    private static final int LAST_INITIALS = 99;
    private static final int COMMENTS = 60;
    private static final int MOST_LINES = 9;
    private static final int LAST_TOLD = 6;
    private static final int TOPICS = 10;
    private static final int RULES = 6;
    private static final int EDITIONS = 8;
    private static final int MOST_WIDTH = 12;
    private static final int MOST_HEIGHT = 60;
    private static final int LAST_DAY = 100000;
    private static final int PAGE = 100;

    private final Pad pad = new Pad();
    private final Text text = new Text();
    private final Authors authors = new Authors();
    private final Comments comments = new Comments();
    private final Rulings rulings = new Rulings();
    private final Setting setting = new Setting();
    private final Editions editions = new Editions();

    public GlossedPage() {
    }

    // ---- text, authors

    public int word(int word) throws IllegalArgumentException, IllegalStateException {
        needArgument(word, 0, LAST_WORD);
        if (pad.isFull()) {
            throw new IllegalStateException("the pad is full");
        }
        pad.add(word);
        return pad.size();
    }

    public int wipe() {
        int size = pad.size();
        pad.clear();
        return size;
    }

    public int unit() throws IllegalStateException {
        if (pad.size() == 0) {
            throw new IllegalStateException("the pad is empty");
        }
        if (text.isFull()) {
            throw new IllegalStateException("no more units");
        }
        text.add(pad);
        pad.clear();
        return text.count() - 1;
    }

    public int emend(int unit, int place, int word)
            throws IndexOutOfBoundsException, IllegalArgumentException, IllegalStateException {
        if (!text.hasPlace(unit, place)) {
            throw new IndexOutOfBoundsException("no such unit or place");
        }
        needArgument(word, NONE, LAST_WORD);
        if (word != NONE) {
            text.put(unit, place, word);
            return comments.hookAnew(unit, text);
        }
        if (text.sizeOf(unit) <= 1) {
            throw new IllegalStateException("the only word of the unit");
        }
        text.takeOut(unit, place);
        comments.closeGap(unit, place, text.sizeOf(unit) - 1);
        return comments.hookAnew(unit, text);
    }

    public int textOf(int unit, int place) throws IndexOutOfBoundsException {
        needUnit(unit);
        if (place < 0) {
            throw new IndexOutOfBoundsException("no such place");
        }
        return text.wordAt(unit, place);
    }

    public int author(int year, int school, int initials)
            throws IllegalArgumentException, IllegalStateException {
        needArgument(year, 0, LAST_YEAR);
        needArgument(school, 0, LAST_SCHOOL);
        needArgument(initials, 0, LAST_INITIALS);
        if (authors.isFull()) {
            throw new IllegalStateException("no more authors");
        }
        authors.add(year, school, initials);
        return authors.count() - 1;
    }

    public int meant(int initials, int year) throws IllegalArgumentException {
        needArgument(initials, 0, LAST_INITIALS);
        needArgument(year, 0, LAST_YEAR);
        return authors.latestCalled(initials, year);
    }

    // ---- comments

    // LANGUAGE.md (rule 6) leaves no way to give the exception for a missing word its cause.
    public int comment(int author, int unit, int kind, int word, int nth, int lines, int margin)
            throws IndexOutOfBoundsException, IllegalArgumentException, IllegalStateException {
        needAuthor(author);
        needUnit(unit);
        needArgument(kind, QUESTION, NOTE);
        needArgument(word, 0, LAST_WORD);
        needArgument(nth, 1, ROW);
        needArgument(lines, 1, MOST_LINES);
        needArgument(margin, INNER, OUTER);
        needRoomForComment();
        int place = text.placeOf(unit, word, nth);
        if (place == NONE) {
            throw new IllegalStateException("the unit has no such word");
        }
        int number = comments.add(author, kind, lines, margin);
        comments.hookTo(number, unit, place, word);
        return number;
    }

    public int gloss(int author, int comment, int kind, int lines, int margin)
            throws IndexOutOfBoundsException, IllegalArgumentException, IllegalStateException {
        needAuthor(author);
        needComment(comment);
        needArgument(kind, QUESTION, NOTE);
        needArgument(lines, 1, MOST_LINES);
        needArgument(margin, INNER, OUTER);
        needRoomForComment();
        if (authors.yearOf(comments.authorOf(comment)) > authors.yearOf(author)) {
            throw new IllegalStateException("the author of that comment is later");
        }
        int number = comments.add(author, kind, lines, margin);
        comments.putOn(number, comment);
        return number;
    }

    public int told(int comment, int what) throws IndexOutOfBoundsException, IllegalArgumentException {
        needComment(comment);
        needArgument(what, 0, LAST_TOLD);
        switch (what) {
            case 0:
                return comments.authorOf(comment);
            case 1:
                return comments.unitOf(comment);
            case 2:
                return comments.placeOf(comment);
            case 3:
                return comments.isLost(comment) ? 1 : 0;
            case 4:
                return comments.stands(comment) ? 1 : 0;
            case 5:
                return comments.parentOf(comment);
            default:
                return comments.kindOf(comment);
        }
    }

    public boolean standsAnew(int comment) throws IndexOutOfBoundsException {
        needComment(comment);
        return comments.stands(comment);
    }

    public boolean isHard(int unit) throws IndexOutOfBoundsException {
        needUnit(unit);
        return comments.haveDoubtOn(unit);
    }

    public int solved(int school) throws IllegalArgumentException {
        needArgument(school, 0, LAST_SCHOOL);
        return comments.solvedBy(school, authors);
    }

    // ---- quotations

    public int found() {
        return text.mostLike(pad);
    }

    public int exact() {
        int unit = text.mostLike(pad);
        int together = pad.size() + text.sizeOf(unit);
        if (unit == NONE || together == 0) {
            return 0;
        }
        return 2 * text.likeness(unit, pad) * 100 / together;
    }

    // ---- rulings

    public int ruling(int author, int topic, boolean is)
            throws IndexOutOfBoundsException, IllegalStateException {
        needAuthor(author);
        needTopic(topic);
        if (rulings.has(author, topic)) {
            throw new IllegalStateException("the author ruled on the topic");
        }
        rulings.add(author, topic, is);
        return rulings.countOn(topic);
    }

    public int follow(int kind, int what) throws IllegalArgumentException, IllegalStateException {
        needArgument(kind, SCHOOL, EXCEPT);
        if (kind == SCHOOL) {
            needArgument(what, 0, LAST_SCHOOL);
        }
        if (kind == EXCEPT) {
            needArgument(what, 0, 2 * TOPICS - 1);
        }
        if (rulings.areRulesFull()) {
            throw new IllegalStateException("no more rules");
        }
        rulings.addRule(kind, what);
        return rulings.countRules();
    }

    public int unfollow(int place) throws IndexOutOfBoundsException {
        if (!rulings.hasRule(place)) {
            throw new IndexOutOfBoundsException("no such rule");
        }
        int kind = rulings.kindOfRule(place);
        rulings.removeRule(place);
        return kind;
    }

    public int decided(int topic) throws IndexOutOfBoundsException {
        needTopic(topic);
        return rulings.decide(topic, authors);
    }

    // ---- pages

    public int edition(int width, int height) throws IllegalArgumentException, IllegalStateException {
        needArgument(width, 1, MOST_WIDTH);
        needArgument(height, 1, MOST_HEIGHT);
        if (text.count() == 0) {
            throw new IllegalStateException("no units");
        }
        if (editions.isFull()) {
            throw new IllegalStateException("no more editions");
        }
        setting.set(text, comments, width);
        editions.add(setting, text.count(), width, height);
        return editions.count() - 1;
    }

    public int address(int edition, int unit) throws IndexOutOfBoundsException {
        needEdition(edition);
        needUnit(unit);
        return editions.addressIn(edition, unit);
    }

    public int pages(int edition) throws IndexOutOfBoundsException {
        needEdition(edition);
        return editions.pagesOf(edition);
    }

    public int row(int comment) throws IndexOutOfBoundsException {
        needComment(comment);
        if (editions.count() == 0 || comments.isLost(comment)) {
            return NONE;
        }
        setting.set(text, comments, editions.latestWidth());
        return setting.rowOfNote(comment, comments);
    }

    public int holds(int edition) throws IndexOutOfBoundsException {
        needEdition(edition);
        return editions.countHeld(edition);
    }

    public int daily(int day) throws IllegalArgumentException {
        needArgument(day, 0, LAST_DAY);
        return editions.unitsOn(day);
    }

    // ---- what arguments must be

    private static void needArgument(int value, int low, int high) {
        if (value < low || value > high) {
            throw new IllegalArgumentException("an argument is out of its range");
        }
    }

    private void needUnit(int unit) {
        if (!text.has(unit)) {
            throw new IndexOutOfBoundsException("no such unit");
        }
    }

    private void needAuthor(int author) {
        if (!authors.has(author)) {
            throw new IndexOutOfBoundsException("no such author");
        }
    }

    private void needComment(int comment) {
        if (!comments.has(comment)) {
            throw new IndexOutOfBoundsException("no such comment");
        }
    }

    private void needRoomForComment() {
        if (comments.isFull()) {
            throw new IllegalStateException("no more comments");
        }
    }

    private static void needTopic(int topic) {
        if (topic < 0 || topic >= TOPICS) {
            throw new IndexOutOfBoundsException("no such topic");
        }
    }

    private void needEdition(int edition) {
        if (!editions.has(edition)) {
            throw new IndexOutOfBoundsException("no such edition");
        }
    }

    private static int at(int[] row, int index) {
        return index >= 0 && index < row.length ? row[index] : NONE;
    }

    /** The row of words that is drafted. */
    private static final class Pad {
        private final int[] words = new int[ROW];
        private int size;

        int size() {
            return size;
        }

        boolean isFull() {
            return size >= words.length;
        }

        void add(int word) {
            if (!isFull()) {
                words[size] = word;
                size++;
            }
        }

        void clear() {
            size = 0;
        }

        int wordAt(int place) {
            return place < size ? at(words, place) : NONE;
        }
    }

    /** The units: each has a slot for every word that it can have. */
    private static final class Text {
        private final int[] words = new int[SLOTS];
        private final int[] sizes = new int[UNITS];
        private final int[] likenesses = new int[ROW + 1];
        private int count;

        int count() {
            return count;
        }

        boolean isFull() {
            return count >= sizes.length;
        }

        boolean has(int unit) {
            return unit >= 0 && unit < count;
        }

        boolean hasPlace(int unit, int place) {
            return place >= 0 && place < sizeOf(unit);
        }

        int sizeOf(int unit) {
            return has(unit) ? sizes[unit] : 0;
        }

        int wordAt(int unit, int place) {
            return hasPlace(unit, place) ? words[unit * ROW + place] : NONE;
        }

        void put(int unit, int place, int word) {
            if (hasPlace(unit, place)) {
                words[unit * ROW + place] = word;
            }
        }

        void add(Pad pad) {
            if (isFull()) {
                return;
            }
            int unit = count;
            count++;
            sizes[unit] = pad.size();
            for (int place = 0; place < pad.size(); place++) {
                put(unit, place, pad.wordAt(place));
            }
        }

        void takeOut(int unit, int place) {
            if (!hasPlace(unit, place)) {
                return;
            }
            for (int p = place; p + 1 < sizes[unit]; p++) {
                put(unit, p, wordAt(unit, p + 1));
            }
            sizes[unit]--;
        }

        int placeOf(int unit, int word, int nth) {
            int seen = 0;
            for (int place = 0; place < sizeOf(unit); place++) {
                if (wordAt(unit, place) == word) {
                    seen++;
                    if (seen == nth) {
                        return place;
                    }
                }
            }
            return NONE;
        }

        int nearest(int unit, int word, int from) {
            int best = NONE;
            for (int place = 0; place < sizeOf(unit); place++) {
                if (wordAt(unit, place) == word
                        && (best == NONE || Math.abs(place - from) < Math.abs(best - from))) {
                    best = place;
                }
            }
            return best;
        }

        int mostLike(Pad pad) {
            int best = NONE;
            int most = 0;
            for (int unit = 0; unit < count; unit++) {
                int likeness = likeness(unit, pad);
                if (likeness > most) {
                    most = likeness;
                    best = unit;
                }
            }
            return best;
        }

        // Behind each word of the unit, likenesses[p] is that of the unit so far to the pad's first p words.
        int likeness(int unit, Pad pad) {
            Arrays.fill(likenesses, 0);
            for (int place = 0; place < sizeOf(unit); place++) {
                int word = wordAt(unit, place);
                int without = 0;
                for (int p = 1; p <= pad.size() && p < likenesses.length; p++) {
                    int above = likenesses[p];
                    likenesses[p] = pad.wordAt(p - 1) == word
                            ? without + 1 : Math.max(above, likenesses[p - 1]);
                    without = above;
                }
            }
            return at(likenesses, pad.size());
        }
    }

    /** Who commented or ruled. */
    private static final class Authors {
        private final int[] years = new int[AUTHORS];
        private final int[] schools = new int[AUTHORS];
        private final int[] initials = new int[AUTHORS];
        private int count;

        int count() {
            return count;
        }

        boolean isFull() {
            return count >= AUTHORS;
        }

        boolean has(int author) {
            return author >= 0 && author < count;
        }

        void add(int year, int school, int letters) {
            if (!isFull()) {
                years[count] = year;
                schools[count] = school;
                initials[count] = letters;
                count++;
            }
        }

        int yearOf(int author) {
            return at(years, author);
        }

        int schoolOf(int author) {
            return at(schools, author);
        }

        int latestCalled(int letters, int lastYear) {
            int best = NONE;
            for (int author = 0; author < count; author++) {
                if (initials[author] == letters && years[author] <= lastYear) {
                    best = later(best, author);
                }
            }
            return best;
        }

        /** The latest of those whose bits are set; school NONE takes authors of every school. */
        int latestAmong(int bits, int school) {
            int best = NONE;
            for (int author = 0; author < count; author++) {
                if ((bits >> author & 1) == 1 && (school == NONE || schools[author] == school)) {
                    best = later(best, author);
                }
            }
            return best;
        }

        private int later(int best, int author) {
            return best == NONE || yearOf(author) > yearOf(best) ? author : best;
        }
    }

    /** The comments. The root of one is the comment on a unit under it: that of one on a unit is itself. */
    private static final class Comments {
        private final int[] writers = new int[COMMENTS];
        private final int[] kinds = new int[COMMENTS];
        private final int[] lines = new int[COMMENTS];
        private final int[] margins = new int[COMMENTS];
        private final int[] parents = new int[COMMENTS];
        private final int[] roots = new int[COMMENTS];
        private final int[] units = new int[COMMENTS];
        private final int[] places = new int[COMMENTS];
        private final int[] words = new int[COMMENTS];
        private final boolean[] lost = new boolean[COMMENTS];
        private final int[] burdens = new int[COMMENTS];
        private int count;

        int count() {
            return count;
        }

        boolean isFull() {
            return count >= COMMENTS;
        }

        boolean has(int comment) {
            return comment >= 0 && comment < count;
        }

        int add(int author, int kind, int height, int margin) {
            if (isFull()) {
                return NONE;
            }
            writers[count] = author;
            kinds[count] = kind;
            lines[count] = height;
            margins[count] = margin;
            count++;
            return count - 1;
        }

        void hookTo(int comment, int unit, int place, int word) {
            if (has(comment)) {
                parents[comment] = NONE;
                roots[comment] = comment;
                units[comment] = unit;
                places[comment] = place;
                words[comment] = word;
            }
        }

        void putOn(int comment, int parent) {
            if (has(comment)) {
                parents[comment] = parent;
                roots[comment] = at(roots, parent);
            }
        }

        int authorOf(int comment) {
            return at(writers, comment);
        }

        int kindOf(int comment) {
            return at(kinds, comment);
        }

        int linesOf(int comment) {
            return at(lines, comment);
        }

        int marginOf(int comment) {
            return at(margins, comment);
        }

        int parentOf(int comment) {
            return at(parents, comment);
        }

        int unitOf(int comment) {
            return at(units, at(roots, comment));
        }

        int placeOf(int comment) {
            return at(places, at(roots, comment));
        }

        boolean isLost(int comment) {
            int root = at(roots, comment);
            return has(root) && lost[root];
        }

        boolean isHook(int comment, int unit) {
            return has(comment) && parents[comment] == NONE && units[comment] == unit;
        }

        void closeGap(int unit, int gap, int last) {
            for (int comment = 0; comment < count; comment++) {
                if (isHook(comment, unit)) {
                    int place = places[comment];
                    places[comment] = Math.min(place > gap ? place - 1 : place, last);
                }
            }
        }

        /** Brings the hooks on a unit to their words; returns how many are lost by that or not any more. */
        int hookAnew(int unit, Text text) {
            int changed = 0;
            for (int comment = 0; comment < count; comment++) {
                if (isHook(comment, unit)) {
                    int place = text.nearest(unit, words[comment], places[comment]);
                    boolean isLostNow = place == NONE;
                    if (!isLostNow) {
                        places[comment] = place;
                    }
                    if (isLostNow != lost[comment]) {
                        lost[comment] = isLostNow;
                        changed++;
                    }
                }
            }
            return changed;
        }

        boolean stands(int comment) {
            weigh();
            return isLight(comment);
        }

        // Those on a comment are later than it, so each one's burden is whole when its turn comes.
        private void weigh() {
            Arrays.fill(burdens, 0);
            for (int comment = count - 1; comment >= 0; comment--) {
                int parent = parents[comment];
                if (has(parent) && isLight(comment)) {
                    burdens[parent] += burdenOf(kinds[comment]);
                }
            }
        }

        private boolean isLight(int comment) {
            return at(burdens, comment) < 1;
        }

        private static int burdenOf(int kind) {
            if (kind == OBJECTION || kind == ANSWER) {
                return 1;
            }
            return kind == PROOF ? -1 : 0;
        }

        private boolean isDoubt(int comment) {
            int kind = kindOf(comment);
            return parentOf(comment) == NONE && (kind == QUESTION || kind == OBJECTION);
        }

        boolean haveDoubtOn(int unit) {
            weigh();
            for (int comment = 0; comment < count; comment++) {
                if (isHook(comment, unit) && isDoubt(comment) && isLight(comment)) {
                    return true;
                }
            }
            return false;
        }

        int solvedBy(int school, Authors authors) {
            weigh();
            int solved = 0;
            for (int comment = 0; comment < count; comment++) {
                if (isDoubt(comment) && !isLight(comment)) {
                    int answer = lowestAnswerTo(comment);
                    if (answer != NONE && authors.schoolOf(authorOf(answer)) == school) {
                        solved++;
                    }
                }
            }
            return solved;
        }

        private int lowestAnswerTo(int doubt) {
            for (int comment = doubt + 1; comment < count; comment++) {
                if (parentOf(comment) == doubt && kindOf(comment) == ANSWER && isLight(comment)) {
                    return comment;
                }
            }
            return NONE;
        }
    }

    /** Who ruled on each topic, with a bit for each author, and whom to follow. */
    private static final class Rulings {
        private final int[] ruled = new int[TOPICS];
        private final int[] yes = new int[TOPICS];
        private final int[] ruleKinds = new int[RULES];
        private final int[] ruleWhats = new int[RULES];
        private int rules;

        boolean has(int author, int topic) {
            return (at(ruled, topic) >> author & 1) == 1;
        }

        void add(int author, int topic, boolean is) {
            if (topic >= 0 && topic < TOPICS) {
                ruled[topic] |= 1 << author;
                yes[topic] |= is ? 1 << author : 0;
            }
        }

        int countOn(int topic) {
            return Integer.bitCount(at(ruled, topic));
        }

        boolean areRulesFull() {
            return rules >= RULES;
        }

        int countRules() {
            return rules;
        }

        boolean hasRule(int place) {
            return place >= 0 && place < rules;
        }

        int kindOfRule(int place) {
            return at(ruleKinds, place);
        }

        void addRule(int kind, int what) {
            if (!areRulesFull()) {
                ruleKinds[rules] = kind;
                ruleWhats[rules] = what;
                rules++;
            }
        }

        void removeRule(int place) {
            if (!hasRule(place)) {
                return;
            }
            rules--;
            for (int p = place; p < rules && p + 1 < RULES; p++) {
                ruleKinds[p] = ruleKinds[p + 1];
                ruleWhats[p] = ruleWhats[p + 1];
            }
        }

        int decide(int topic, Authors authors) {
            for (int place = 0; place < rules; place++) {
                int told = tell(ruleKinds[place], ruleWhats[place], topic, authors);
                if (told != NONE) {
                    return 10 * place + told;
                }
            }
            return NONE;
        }

        /** What a rule tells of a topic: 1 for yes, 0 for no, NONE for nothing. */
        private int tell(int kind, int what, int topic, Authors authors) {
            switch (kind) {
                case SCHOOL:
                    return rulingOf(authors.latestAmong(at(ruled, topic), what), topic);
                case LATEST:
                    return rulingOf(authors.latestAmong(at(ruled, topic), NONE), topic);
                case MOST:
                    return rulingOfMost(topic);
                default:
                    return what >> 1 == topic ? what & 1 : NONE;
            }
        }

        private int rulingOf(int author, int topic) {
            return author == NONE ? NONE : at(yes, topic) >> author & 1;
        }

        private int rulingOfMost(int topic) {
            int forIt = Integer.bitCount(at(yes, topic));
            int against = countOn(topic) - forIt;
            if (forIt == against) {
                return NONE;
            }
            return forIt > against ? 1 : 0;
        }
    }

    /** One side of the page: how high the notes of each line are together, and where the side is free. */
    private static final class Margin {
        private final int[] heights = new int[SLOTS];
        private int free;

        int free() {
            return free;
        }

        void clear() {
            Arrays.fill(heights, 0);
            free = 0;
        }

        void add(int line, int height) {
            if (line >= 0 && line < heights.length) {
                heights[line] += height;
            }
        }

        int rowFor(int line, int row) {
            return at(heights, line) > 0 ? Math.max(row, free) : row;
        }

        void fill(int line, int row) {
            if (at(heights, line) > 0) {
                free = row + at(heights, line);
            }
        }
    }

    /** The text set in lines: a line goes by the slot of its first word. */
    private static final class Setting {
        private final Margin inner = new Margin();
        private final Margin outer = new Margin();
        private final int[] rows = new int[SLOTS];
        private int width;
        private int next;

        void set(Text text, Comments comments, int words) {
            width = words;
            next = 0;
            inner.clear();
            outer.clear();
            gatherNotes(comments);
            for (int unit = 0; unit < text.count(); unit++) {
                for (int place = 0; place < text.sizeOf(unit); place++) {
                    if (firstOfLine(place) == place) {
                        setLine(unit * ROW + place);
                    }
                }
            }
        }

        private int firstOfLine(int place) {
            return width < 1 ? place : place - place % width;
        }

        private void gatherNotes(Comments comments) {
            for (int comment = 0; comment < comments.count(); comment++) {
                if (!comments.isLost(comment)) {
                    Margin margin = comments.marginOf(comment) == INNER ? inner : outer;
                    margin.add(lineOf(comment, comments), comments.linesOf(comment));
                }
            }
        }

        private int lineOf(int comment, Comments comments) {
            return comments.unitOf(comment) * ROW + firstOfLine(comments.placeOf(comment));
        }

        private void setLine(int line) {
            int row = outer.rowFor(line, inner.rowFor(line, next));
            inner.fill(line, row);
            outer.fill(line, row);
            if (line >= 0 && line < rows.length) {
                rows[line] = row;
            }
            next = row + 1;
        }

        int rowOfUnit(int unit) {
            return at(rows, unit * ROW);
        }

        int rowOfNote(int note, Comments comments) {
            int line = lineOf(note, comments);
            int row = at(rows, line);
            for (int comment = 0; comment < note; comment++) {
                if (!comments.isLost(comment) && lineOf(comment, comments) == line
                        && comments.marginOf(comment) == comments.marginOf(note)) {
                    row += comments.linesOf(comment);
                }
            }
            return row;
        }

        int height() {
            return Math.max(next, Math.max(inner.free(), outer.free()));
        }
    }

    /** What was printed: the addresses that the units had then. */
    private static final class Editions {
        private final int[] addresses = new int[EDITIONS * UNITS];
        private final int[] pageCounts = new int[EDITIONS];
        private final int[] unitCounts = new int[EDITIONS];
        private int count;
        private int width;

        int count() {
            return count;
        }

        boolean isFull() {
            return count >= EDITIONS;
        }

        boolean has(int edition) {
            return edition >= 0 && edition < count;
        }

        int latestWidth() {
            return width;
        }

        void add(Setting setting, int units, int words, int height) {
            if (isFull() || height < 1) {
                return;
            }
            width = words;
            pageCounts[count] = (setting.height() + height - 1) / height;
            unitCounts[count] = units;
            for (int unit = 0; unit < units && unit < UNITS; unit++) {
                int row = setting.rowOfUnit(unit);
                addresses[count * UNITS + unit] = PAGE * (row / height) + row % height;
            }
            count++;
        }

        int pagesOf(int edition) {
            return at(pageCounts, edition);
        }

        int addressIn(int edition, int unit) {
            boolean isIn = has(edition) && unit >= 0 && unit < unitCounts[edition];
            return isIn ? at(addresses, edition * UNITS + unit) : NONE;
        }

        private int pageIn(int edition, int unit) {
            int address = addressIn(edition, unit);
            return address == NONE ? NONE : address / PAGE;
        }

        int countHeld(int edition) {
            int held = 0;
            for (int unit = 0; unit < UNITS; unit++) {
                int page = pageIn(edition, unit);
                if (page != NONE && page == pageIn(0, unit)) {
                    held++;
                }
            }
            return held;
        }

        int unitsOn(int day) {
            int latest = count - 1;
            int pages = pagesOf(latest);
            if (pages < 1) {
                return 0;
            }
            int units = 0;
            for (int unit = 0; unit < UNITS; unit++) {
                if (pageIn(latest, unit) == day % pages) {
                    units |= 1 << unit;
                }
            }
            return units;
        }
    }
}
