import java.util.ArrayList;
import java.util.List;

/** The same promises, written slowly and plainly over lists: what GlossedPage is held against. */
final class Model {
    private static final class Author {
        int year;
        int school;
        int initials;
        final Boolean[] rulings = new Boolean[10];
    }

    private static final class Comment {
        Author author;
        int by;
        int unit;
        int kind;
        int word;
        int place;
        int lines;
        int margin;
        boolean lost;
        Comment parent;
        final List<Comment> children = new ArrayList<>();

        Comment root() {
            return parent == null ? this : parent.root();
        }

        boolean stands() {
            int against = 0;
            int proofs = 0;
            for (Comment child : children) {
                if (child.stands()) {
                    against += child.kind == 1 || child.kind == 3 ? 1 : 0;
                    proofs += child.kind == 2 ? 1 : 0;
                }
            }
            return against < 1 + proofs;
        }

        boolean isDoubt() {
            return parent == null && (kind == 0 || kind == 1);
        }
    }

    private static final class Layout {
        final int[] unitRows = new int[20];
        final int[] noteRows = new int[60];
        int rows;
    }

    private static final class Edition {
        int width;
        int height;
        int units;
        Layout layout;

        int page(int unit) {
            return unit < units ? layout.unitRows[unit] / height : -1;
        }

        int pages() {
            int pages = 0;
            while (pages * height < layout.rows) {
                pages++;
            }
            return pages;
        }
    }

    private final List<Integer> pad = new ArrayList<>();
    private final List<List<Integer>> text = new ArrayList<>();
    private final List<Author> authors = new ArrayList<>();
    private final List<Comment> comments = new ArrayList<>();
    private final List<int[]> rules = new ArrayList<>();
    private final List<Edition> editions = new ArrayList<>();

    // ---- what arguments must be

    private static void index(int index, List<?> list) {
        if (index < 0 || index >= list.size()) {
            throw new IndexOutOfBoundsException();
        }
    }

    private static void range(int value, int low, int high) {
        if (value < low || value > high) {
            throw new IllegalArgumentException();
        }
    }

    private static void state(boolean isFine) {
        if (!isFine) {
            throw new IllegalStateException();
        }
    }

    // ---- text, authors

    int word(int word) {
        range(word, 0, 59);
        state(pad.size() < 12);
        pad.add(word);
        return pad.size();
    }

    int wipe() {
        int had = pad.size();
        pad.clear();
        return had;
    }

    int unit() {
        state(!pad.isEmpty() && text.size() < 20);
        text.add(new ArrayList<>(pad));
        pad.clear();
        return text.size() - 1;
    }

    int emend(int unit, int place, int word) {
        index(unit, text);
        List<Integer> words = text.get(unit);
        index(place, words);
        range(word, -1, 59);
        state(word != -1 || words.size() > 1);
        if (word == -1) {
            words.remove(place);
        } else {
            words.set(place, word);
        }
        int changed = 0;
        for (Comment hook : comments) {
            if (hook.parent == null && hook.unit == unit) {
                if (word == -1 && place < hook.place) {
                    hook.place--;
                }
                if (hook.place == words.size()) {
                    hook.place--;
                }
                changed += drift(hook, words) ? 1 : 0;
            }
        }
        return changed;
    }

    private static boolean drift(Comment hook, List<Integer> words) {
        boolean was = hook.lost;
        hook.lost = true;
        for (int far = 0; far < 12 && hook.lost; far++) {
            for (int place : new int[] {hook.place - far, hook.place + far}) {
                if (hook.lost && place >= 0 && place < words.size() && words.get(place) == hook.word) {
                    hook.place = place;
                    hook.lost = false;
                }
            }
        }
        return hook.lost != was;
    }

    int textOf(int unit, int place) {
        index(unit, text);
        if (place < 0) {
            throw new IndexOutOfBoundsException();
        }
        return wordIn(unit, place);
    }

    /** A word of a unit; NONE if there is no such unit or place. */
    int wordIn(int unit, int place) {
        boolean isThere = unit >= 0 && unit < text.size() && place < text.get(unit).size();
        return isThere ? text.get(unit).get(place) : -1;
    }

    int author(int year, int school, int initials) {
        range(year, 0, 2000);
        range(school, 0, 3);
        range(initials, 0, 99);
        state(authors.size() < 12);
        Author author = new Author();
        author.year = year;
        author.school = school;
        author.initials = initials;
        authors.add(author);
        return authors.size() - 1;
    }

    int meant(int initials, int year) {
        range(initials, 0, 99);
        range(year, 0, 2000);
        for (int y = year; y >= 0; y--) {
            for (Author author : authors) {
                if (author.year == y && author.initials == initials) {
                    return authors.indexOf(author);
                }
            }
        }
        return -1;
    }

    // ---- comments

    int comment(int author, int unit, int kind, int word, int nth, int lines, int margin) {
        index(author, authors);
        index(unit, text);
        range(kind, 0, 4);
        range(word, 0, 59);
        range(nth, 1, 12);
        range(lines, 1, 9);
        range(margin, 0, 1);
        state(comments.size() < 60);
        List<Integer> places = new ArrayList<>();
        for (int place = 0; place < text.get(unit).size(); place++) {
            if (text.get(unit).get(place) == word) {
                places.add(place);
            }
        }
        state(nth <= places.size());
        Comment comment = add(author, kind, lines, margin);
        comment.unit = unit;
        comment.word = word;
        comment.place = places.get(nth - 1);
        return comments.size() - 1;
    }

    int comments() {
        return comments.size();
    }

    int gloss(int author, int comment, int kind, int lines, int margin) {
        index(author, authors);
        index(comment, comments);
        range(kind, 0, 4);
        range(lines, 1, 9);
        range(margin, 0, 1);
        state(comments.size() < 60);
        Comment parent = comments.get(comment);
        state(parent.author.year <= authors.get(author).year);
        Comment added = add(author, kind, lines, margin);
        added.parent = parent;
        parent.children.add(added);
        return comments.size() - 1;
    }

    private Comment add(int author, int kind, int lines, int margin) {
        Comment comment = new Comment();
        comment.by = author;
        comment.author = authors.get(author);
        comment.kind = kind;
        comment.lines = lines;
        comment.margin = margin;
        comments.add(comment);
        return comment;
    }

    int told(int number, int what) {
        index(number, comments);
        range(what, 0, 6);
        Comment comment = comments.get(number);
        Comment root = comment.root();
        int[] all = {comment.by, root.unit, root.place, root.lost ? 1 : 0, comment.stands() ? 1 : 0,
            comments.indexOf(comment.parent), comment.kind};
        return all[what];
    }

    boolean standsAnew(int comment) {
        index(comment, comments);
        return comments.get(comment).stands();
    }

    boolean isHard(int unit) {
        index(unit, text);
        for (Comment comment : comments) {
            if (comment.isDoubt() && comment.unit == unit && comment.stands()) {
                return true;
            }
        }
        return false;
    }

    int solved(int school) {
        range(school, 0, 3);
        int solved = 0;
        for (Comment comment : comments) {
            if (comment.isDoubt() && !comment.stands()) {
                Comment answer = null;
                for (Comment child : comment.children) {
                    if (answer == null && child.kind == 3 && child.stands()) {
                        answer = child;
                    }
                }
                solved += answer != null && answer.author.school == school ? 1 : 0;
            }
        }
        return solved;
    }

    // ---- quotations

    private static int likeness(List<Integer> one, List<Integer> other) {
        int[][] tail = new int[one.size() + 1][other.size() + 1];
        for (int i = one.size() - 1; i >= 0; i--) {
            for (int k = other.size() - 1; k >= 0; k--) {
                tail[i][k] = one.get(i).equals(other.get(k))
                    ? 1 + tail[i + 1][k + 1] : Math.max(tail[i + 1][k], tail[i][k + 1]);
            }
        }
        return tail[0][0];
    }

    int found() {
        for (int likeness = 12; likeness > 0; likeness--) {
            for (int unit = 0; unit < text.size(); unit++) {
                if (likeness(pad, text.get(unit)) == likeness) {
                    return unit;
                }
            }
        }
        return -1;
    }

    int exact() {
        int unit = found();
        if (unit == -1) {
            return 0;
        }
        return likeness(pad, text.get(unit)) * 200 / (pad.size() + text.get(unit).size());
    }

    // ---- rulings

    int ruling(int author, int topic, boolean is) {
        index(author, authors);
        if (topic < 0 || topic > 9) {
            throw new IndexOutOfBoundsException();
        }
        state(authors.get(author).rulings[topic] == null);
        authors.get(author).rulings[topic] = is;
        int count = 0;
        for (Author other : authors) {
            count += other.rulings[topic] == null ? 0 : 1;
        }
        return count;
    }

    int follow(int kind, int what) {
        range(kind, 0, 3);
        if (kind == 0) {
            range(what, 0, 3);
        } else if (kind == 3) {
            range(what, 0, 19);
        }
        state(rules.size() < 6);
        rules.add(new int[] {kind, what});
        return rules.size();
    }

    int unfollow(int place) {
        index(place, rules);
        return rules.remove(place)[0];
    }

    int decided(int topic) {
        if (topic < 0 || topic > 9) {
            throw new IndexOutOfBoundsException();
        }
        for (int place = 0; place < rules.size(); place++) {
            Boolean told = tell(rules.get(place)[0], rules.get(place)[1], topic);
            if (told != null) {
                return 10 * place + (told ? 1 : 0);
            }
        }
        return -1;
    }

    private Boolean tell(int kind, int what, int topic) {
        if (kind == 3) {
            return what / 2 == topic ? (Boolean) (what % 2 == 1) : null;
        }
        int sum = 0;
        Author latest = null;
        for (Author author : authors) {
            Boolean is = author.rulings[topic];
            if (is != null && (kind != 0 || author.school == what)) {
                sum += is ? 1 : -1;
                if (latest == null || author.year > latest.year) {
                    latest = author;
                }
            }
        }
        if (kind == 2) {
            return sum == 0 ? null : (Boolean) (sum > 0);
        }
        return latest == null ? null : latest.rulings[topic];
    }

    // ---- pages

    private Layout lay(int width) {
        Layout layout = new Layout();
        boolean[][] taken = new boolean[2][2000];
        int row = -1;
        for (int unit = 0; unit < text.size(); unit++) {
            for (int first = 0; first < text.get(unit).size(); first += width) {
                List<Comment> notes = notesOf(unit, first, first + width);
                row++;
                while (isTaken(taken, notes, row)) {
                    row++;
                }
                if (first == 0) {
                    layout.unitRows[unit] = row;
                }
                layout.rows = Math.max(layout.rows, row + 1);
                int[] next = {row, row};
                for (Comment note : notes) {
                    layout.noteRows[comments.indexOf(note)] = next[note.margin];
                    for (int line = 0; line < note.lines; line++) {
                        taken[note.margin][next[note.margin]++] = true;
                    }
                    layout.rows = Math.max(layout.rows, next[note.margin]);
                }
            }
        }
        return layout;
    }

    private List<Comment> notesOf(int unit, int from, int to) {
        List<Comment> notes = new ArrayList<>();
        for (Comment comment : comments) {
            Comment root = comment.root();
            if (!root.lost && root.unit == unit && root.place >= from && root.place < to) {
                notes.add(comment);
            }
        }
        return notes;
    }

    private static boolean isTaken(boolean[][] taken, List<Comment> notes, int row) {
        for (Comment note : notes) {
            if (taken[note.margin][row]) {
                return true;
            }
        }
        return false;
    }

    int edition(int width, int height) {
        range(width, 1, 12);
        range(height, 1, 60);
        state(!text.isEmpty() && editions.size() < 8);
        Edition edition = new Edition();
        edition.width = width;
        edition.height = height;
        edition.units = text.size();
        edition.layout = lay(width);
        editions.add(edition);
        return editions.size() - 1;
    }

    int address(int edition, int unit) {
        index(edition, editions);
        index(unit, text);
        Edition one = editions.get(edition);
        return unit < one.units ? one.page(unit) * 100 + one.layout.unitRows[unit] % one.height : -1;
    }

    int pages(int edition) {
        index(edition, editions);
        return editions.get(edition).pages();
    }

    int row(int comment) {
        index(comment, comments);
        if (editions.isEmpty() || comments.get(comment).root().lost) {
            return -1;
        }
        return lay(editions.get(editions.size() - 1).width).noteRows[comment];
    }

    int holds(int edition) {
        index(edition, editions);
        int held = 0;
        for (int unit = 0; unit < editions.get(0).units; unit++) {
            held += editions.get(0).page(unit) == editions.get(edition).page(unit) ? 1 : 0;
        }
        return held;
    }

    int daily(int day) {
        range(day, 0, 100000);
        if (editions.isEmpty()) {
            return 0;
        }
        Edition latest = editions.get(editions.size() - 1);
        int bits = 0;
        for (int unit = 0; unit < latest.units; unit++) {
            bits += latest.page(unit) == day % latest.pages() ? 1 << unit : 0;
        }
        return bits;
    }
}
