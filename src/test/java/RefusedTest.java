import java.lang.reflect.Method;
import java.util.ArrayList;
import java.util.Arrays;
import java.util.HashMap;
import java.util.List;
import java.util.Map;
import java.util.function.IntSupplier;

/**
 * Every argument of every call, one below its range and one above it, on an empty page, on one with something on it
 * and on a full one: which exception comes, which of several, and that it changes nothing.
 */
public final class RefusedTest extends Pages {
    /** What an argument may be, and what is thrown if it is not. */
    private record Range(Class<? extends RuntimeException> otherwise, long low, long high) {
    }

    /** A call whose arguments are all in their ranges, what it throws all the same (null: nothing), and the ranges. */
    private record Call(String name, int[] with, Class<? extends RuntimeException> due, Range... ranges) {
    }

    private interface Recipe {
        void make(GlossedPage page);
    }

    private interface Look {
        void at(GlossedPage page, StringBuilder seen);
    }

    private static final Map<String, Method> METHODS = methods();
    private static final Range WORDS = argument(0, 59);
    private static final Range KINDS = argument(0, 4);
    private static final Range LINES = argument(1, 9);
    private static final Range MARGINS = argument(0, 1);
    private static final Range TOPICS = index(0, 9);
    // An object is good for 512 calls, so a page is made anew for each of the looks at it.
    private static final Look[] LOOKS = {RefusedTest::lookAtText, RefusedTest::lookAtAuthors,
        (page, seen) -> lookAtComments(page, seen, 0), (page, seen) -> lookAtComments(page, seen, 30),
        RefusedTest::lookAtDoubts, RefusedTest::lookAtRules, RefusedTest::lookAtRulings, RefusedTest::lookAtEditions};

    private final String where;
    private final Recipe recipe;
    private final String[] untouched = new String[LOOKS.length];

    private RefusedTest(String where, Recipe recipe) {
        this.where = where;
        this.recipe = recipe;
        for (int look = 0; look < LOOKS.length; look++) {
            untouched[look] = seen(LOOKS[look], make());
        }
    }

    public static void main(String[] args) {
        new RefusedTest("empty", page -> { }).check(callsOnEmptyPage());
        new RefusedTest("some", RefusedTest::makeSome).check(callsOnSomePage());
        new RefusedTest("full", RefusedTest::makeFull).check(callsOnFullPage());
        Check.close();
    }

    // ---- the pages

    private static void makeSome(GlossedPage page) {
        addUnit(page, 1, 2, 1, 3);
        addUnit(page, 4);
        page.author(1000, 0, 0);
        page.author(1200, 1, 1);
        page.comment(0, 0, QUESTION, 1, 2, 3, INNER);
        page.gloss(1, 0, ANSWER, 2, OUTER);
        page.comment(1, 0, OBJECTION, 3, 1, 2, INNER);
        page.comment(0, 1, NOTE, 4, 1, 9, OUTER);
        page.emend(0, 3, 5);
        page.ruling(0, 0, true);
        page.ruling(1, 0, false);
        page.ruling(1, 9, true);
        page.follow(SCHOOL, 1);
        page.follow(EXCEPT, 7);
        page.edition(2, 3);
        page.edition(1, 2);
        draft(page, 1, 7, 2);
    }

    private static void makeFull(GlossedPage page) {
        addUnit(page, 1, 2);
        for (int unit = 1; unit < 20; unit++) {
            addUnit(page, 3);
        }
        for (int n = 0; n < 12; n++) {
            page.word(n);
            page.author(1000 + n, n % 4, n);
            page.ruling(n, 0, n % 3 == 0);
            page.ruling(n, 9, n % 3 == 1);
        }
        for (int n = 0; n < 20; n++) {
            page.comment(1, n, n % 5, n == 0 ? 2 : 3, 1, 1 + n % 9, n % 2);
        }
        for (int n = 20; n < 60; n++) {
            page.gloss(n % 12 == 0 ? 1 : n % 12, n - 20 < 20 ? n - 20 : 0, n % 5, 1, n % 2);
        }
        for (int n = 0; n < 6; n++) {
            page.follow(n < 4 ? EXCEPT : n - 3, n);
        }
        for (int n = 0; n < 8; n++) {
            page.edition(1 + n, 1 + 8 * n);
        }
    }

    // ---- the calls

    private static Range index(long low, long high) {
        return new Range(INDEX, low, high);
    }

    private static Range argument(long low, long high) {
        return new Range(ARGUMENT, low, high);
    }

    private static int[] with(int... arguments) {
        return arguments;
    }

    private static Call call(String name, int[] with, Class<? extends RuntimeException> due, Range... ranges) {
        return new Call(name, with, due, ranges);
    }

    /** The calls whose arguments have the same ranges on every page. */
    private static List<Call> callsOnAnyPage() {
        List<Call> calls = new ArrayList<>();
        calls.add(call("wipe", with(), null));
        calls.add(call("found", with(), null));
        calls.add(call("exact", with(), null));
        calls.add(call("meant", with(0, 0), null, argument(0, 99), argument(0, 2000)));
        calls.add(call("solved", with(0), null, argument(0, 3)));
        calls.add(call("decided", with(0), null, TOPICS));
        calls.add(call("daily", with(0), null, argument(0, 100000)));
        return calls;
    }

    /** The calls that make something: what they throw, though their arguments are in their ranges. */
    private static void addMaking(List<Call> calls, Class<? extends RuntimeException> due) {
        calls.add(call("word", with(1), due, WORDS));
        calls.add(call("author", with(1, 1, 1), due, argument(0, 2000), argument(0, 3), argument(0, 99)));
        calls.add(call("follow", with(SCHOOL, 0), due, argument(0, 3), argument(0, 3)));
        calls.add(call("follow", with(EXCEPT, 0), due, argument(0, 3), argument(0, 19)));
        Range any = argument(Integer.MIN_VALUE, Integer.MAX_VALUE);
        calls.add(call("follow", with(LATEST, 0), due, argument(0, 3), any));
        calls.add(call("follow", with(MOST, 0), due, argument(0, 3), any));
    }

    /** The calls that only look, on a page of so many units, comments and editions. */
    private static void addLooking(List<Call> calls, int units, int comments, int editions) {
        Class<? extends RuntimeException> due = units == 0 ? INDEX : null;
        Range ofUnits = index(0, units - 1);
        Range ofComments = index(0, comments - 1);
        Range ofEditions = index(0, editions - 1);
        calls.add(call("textOf", with(0, 0), due, ofUnits, index(0, Integer.MAX_VALUE)));
        calls.add(call("told", with(0, 0), due, ofComments, argument(0, 6)));
        calls.add(call("standsAnew", with(0), due, ofComments));
        calls.add(call("isHard", with(0), due, ofUnits));
        calls.add(call("address", with(0, 0), due, ofEditions, ofUnits));
        calls.add(call("pages", with(0), due, ofEditions));
        calls.add(call("row", with(0), due, ofComments));
        calls.add(call("holds", with(0), due, ofEditions));
    }

    private static Call commentCall(Class<? extends RuntimeException> due, int authors, int units, int... with) {
        return call("comment", with, due,
            index(0, authors - 1), index(0, units - 1), KINDS, WORDS, argument(1, 12), LINES, MARGINS);
    }

    private static Call glossCall(Class<? extends RuntimeException> due, int authors, int comments, int... with) {
        return call("gloss", with, due, index(0, authors - 1), index(0, comments - 1), KINDS, LINES, MARGINS);
    }

    private static Call rulingCall(Class<? extends RuntimeException> due, int authors, int... with) {
        return call("ruling", with, due, index(0, authors - 1), TOPICS);
    }

    private static Call emendCall(Class<? extends RuntimeException> due, int units, int places, int... with) {
        return call("emend", with, due, index(0, units - 1), index(0, places - 1), argument(NONE, 59));
    }

    private static Call editionCall(Class<? extends RuntimeException> due) {
        return call("edition", with(1, 1), due, argument(1, 12), argument(1, 60));
    }

    private static List<Call> callsOnEmptyPage() {
        List<Call> calls = callsOnAnyPage();
        addMaking(calls, null);
        calls.add(call("unit", with(), STATE));
        calls.add(editionCall(STATE));
        addLooking(calls, 0, 0, 0);
        calls.add(emendCall(INDEX, 0, 0, 0, 0, 1));
        calls.add(commentCall(INDEX, 0, 0, 0, 0, NOTE, 1, 1, 1, INNER));
        calls.add(glossCall(INDEX, 0, 0, 0, 0, NOTE, 1, INNER));
        calls.add(rulingCall(INDEX, 0, 0, 0, 1));
        calls.add(call("unfollow", with(0), INDEX, index(0, -1)));
        return calls;
    }

    private static List<Call> callsOnSomePage() {
        List<Call> calls = callsOnAnyPage();
        addMaking(calls, null);
        calls.add(call("unit", with(), null));
        calls.add(editionCall(null));
        addLooking(calls, 2, 4, 2);
        calls.add(emendCall(null, 2, 4, 0, 0, 1));
        calls.add(emendCall(null, 2, 4, 0, 0, NONE));
        calls.add(emendCall(STATE, 2, 1, 1, 0, NONE));
        calls.add(commentCall(null, 2, 2, 0, 0, NOTE, 1, 2, 1, INNER));
        calls.add(commentCall(STATE, 2, 2, 0, 0, NOTE, 1, 3, 1, INNER));
        calls.add(commentCall(STATE, 2, 2, 1, 1, NOTE, 1, 1, 1, INNER));
        calls.add(glossCall(null, 2, 4, 1, 0, NOTE, 1, INNER));
        calls.add(glossCall(STATE, 2, 4, 0, 1, NOTE, 1, INNER));
        calls.add(rulingCall(null, 2, 0, 9, 1));
        calls.add(rulingCall(STATE, 2, 0, 0, 1));
        calls.add(rulingCall(STATE, 2, 0, 0, 0));
        calls.add(rulingCall(STATE, 2, 1, 0, 1));
        calls.add(call("unfollow", with(0), null, index(0, 1)));
        return calls;
    }

    private static List<Call> callsOnFullPage() {
        List<Call> calls = callsOnAnyPage();
        addMaking(calls, STATE);
        calls.add(call("unit", with(), STATE));
        calls.add(editionCall(STATE));
        addLooking(calls, 20, 60, 8);
        calls.add(emendCall(null, 20, 2, 0, 0, 1));
        calls.add(emendCall(STATE, 20, 1, 19, 0, NONE));
        calls.add(commentCall(STATE, 12, 20, 0, 0, NOTE, 1, 1, 1, INNER));
        calls.add(commentCall(STATE, 12, 20, 0, 0, NOTE, 7, 1, 1, INNER));
        calls.add(glossCall(STATE, 12, 60, 11, 0, NOTE, 1, INNER));
        calls.add(glossCall(STATE, 12, 60, 0, 59, NOTE, 1, INNER));
        calls.add(rulingCall(null, 12, 11, 8, 1));
        calls.add(rulingCall(STATE, 12, 11, 9, 1));
        calls.add(call("unfollow", with(5), null, index(0, 5)));
        return calls;
    }

    // ---- what is checked of each call

    private void check(List<Call> calls) {
        for (Call call : calls) {
            dueOf(call, call.with, call.due);
            for (int n = 0; n < call.ranges.length; n++) {
                checkEnds(call, n);
                checkWrong(call, n);
                checkWrongPairs(call, n);
            }
        }
    }

    /** At both ends of its range an argument is right: what may be thrown then is thrown for the state alone. */
    private void checkEnds(Call call, int n) {
        Range range = call.ranges[n];
        if (range.low > range.high || call.due == INDEX) {
            return;
        }
        for (long end : new long[] {range.low, range.high}) {
            String got = Check.outcome(make(), METHODS.get(call.name), changed(call.with, n, end));
            boolean isRefused = got.equals(INDEX.getSimpleName()) || got.equals(ARGUMENT.getSimpleName());
            Check.due(describe(call.name, changed(call.with, n, end)) + " refused", isRefused, false);
        }
    }

    /** Where a call is due IndexOutOfBoundsException as it is, that comes ahead of a wrong argument. */
    private void checkWrong(Call call, int n) {
        for (long wrong : wrongOf(call.ranges[n])) {
            dueOf(call, changed(call.with, n, wrong), call.due == INDEX ? INDEX : call.ranges[n].otherwise);
        }
    }

    /** IndexOutOfBoundsException stands first in every list that has it. */
    private void checkWrongPairs(Call call, int n) {
        for (int other = n + 1; other < call.ranges.length; other++) {
            boolean isIndex = call.due == INDEX
                || call.ranges[n].otherwise == INDEX || call.ranges[other].otherwise == INDEX;
            for (long wrong : wrongOf(call.ranges[n])) {
                for (long alsoWrong : wrongOf(call.ranges[other])) {
                    int[] with = changed(changed(call.with, n, wrong), other, alsoWrong);
                    dueOf(call, with, isIndex ? INDEX : ARGUMENT);
                }
            }
        }
    }

    private static List<Long> wrongOf(Range range) {
        List<Long> wrong = new ArrayList<>();
        for (long value : new long[] {Integer.MIN_VALUE, range.low - 1, range.high + 1, Integer.MAX_VALUE}) {
            boolean isOutside = value < range.low || value > range.high;
            if (isOutside && value == (int) value && !wrong.contains(value)) {
                wrong.add(value);
            }
        }
        return wrong;
    }

    private static int[] changed(int[] with, int n, long value) {
        int[] changed = with.clone();
        changed[n] = (int) value;
        return changed;
    }

    private void dueOf(Call call, int[] with, Class<? extends RuntimeException> due) {
        String what = describe(call.name, with);
        String got = Check.outcome(make(), METHODS.get(call.name), with);
        if (due == null) {
            Check.due(what + " throws nothing, but " + got, got.endsWith("Exception"), false);
            return;
        }
        Check.due(what, got, due.getSimpleName());
        for (int look = 0; look < LOOKS.length; look++) {
            GlossedPage page = make();
            Check.outcome(page, METHODS.get(call.name), with);
            Check.due(what + " changed something: the look " + look, seen(LOOKS[look], page), untouched[look]);
        }
    }

    private GlossedPage make() {
        GlossedPage page = new GlossedPage();
        recipe.make(page);
        return page;
    }

    private String describe(String name, int[] with) {
        return where + " page: " + name + Arrays.toString(with);
    }

    private static Map<String, Method> methods() {
        Map<String, Method> methods = new HashMap<>();
        for (Method method : GlossedPage.class.getMethods()) {
            methods.put(method.getName(), method);
        }
        return methods;
    }

    // ---- the looks at a page: all that it tells, part by part

    private static String seen(Look look, GlossedPage page) {
        StringBuilder seen = new StringBuilder();
        look.at(page, seen);
        return seen.toString();
    }

    private static void ask(StringBuilder seen, IntSupplier call) {
        String thrown = Check.thrownBy(() -> seen.append(call.getAsInt()).append(' '));
        seen.append(thrown.equals("nothing") ? "" : thrown + " ");
    }

    private static void lookAtText(GlossedPage page, StringBuilder seen) {
        ask(seen, page::found);
        ask(seen, page::exact);
        ask(seen, page::unit);
        for (int n = 0; n < 20 * 5; n++) {
            int unit = n / 5;
            int place = n % 5;
            ask(seen, () -> page.textOf(unit, place));
        }
        ask(seen, page::wipe);
    }

    private static void lookAtAuthors(GlossedPage page, StringBuilder seen) {
        for (int n = 0; n < 12 * 12; n++) {
            int initials = n % 12;
            int year = 1000 + n / 12;
            ask(seen, () -> page.meant(initials, year));
        }
        ask(seen, () -> page.author(0, 0, 0));
        ask(seen, () -> page.meant(0, 1));
    }

    private static void lookAtComments(GlossedPage page, StringBuilder seen, int first) {
        for (int n = 0; n < 30 * 7; n++) {
            int comment = first + n / 7;
            int what = n % 7;
            ask(seen, () -> page.told(comment, what));
        }
        for (int n = 0; n < 30; n++) {
            int comment = first + n;
            ask(seen, () -> page.row(comment));
        }
    }

    private static void lookAtDoubts(GlossedPage page, StringBuilder seen) {
        for (int n = 0; n < 20; n++) {
            int unit = n;
            ask(seen, () -> page.isHard(unit) ? 1 : 0);
        }
        for (int n = 0; n < 4; n++) {
            int school = n;
            ask(seen, () -> page.solved(school));
        }
        ask(seen, () -> page.comment(0, 0, NOTE, 1, 1, 1, INNER));
    }

    private static void lookAtRules(GlossedPage page, StringBuilder seen) {
        for (int rules = 6; rules >= 0; rules--) {
            for (int n = 0; n < 10; n++) {
                int topic = n;
                ask(seen, () -> page.decided(topic));
            }
            ask(seen, () -> page.unfollow(0));
        }
        ask(seen, () -> page.follow(MOST, 0));
        ask(seen, () -> page.decided(9));
    }

    private static void lookAtRulings(GlossedPage page, StringBuilder seen) {
        for (int n = 0; n < 6; n++) {
            ask(seen, () -> page.unfollow(0));
        }
        ask(seen, () -> page.follow(LATEST, 0));
        for (int n = 0; n < 10 * 12; n++) {
            int topic = n / 12;
            int author = 11 - n % 12;
            ask(seen, () -> page.decided(topic));
            ask(seen, () -> page.ruling(author, topic, author % 2 == 0));
        }
    }

    private static void lookAtEditions(GlossedPage page, StringBuilder seen) {
        for (int n = 0; n < 8 * 20; n++) {
            int edition = n / 20;
            int unit = n % 20;
            ask(seen, () -> page.address(edition, unit));
        }
        for (int n = 0; n < 8; n++) {
            int edition = n;
            ask(seen, () -> page.pages(edition));
            ask(seen, () -> page.holds(edition));
            ask(seen, () -> page.daily(edition));
        }
        ask(seen, () -> page.row(0));
        ask(seen, () -> page.edition(3, 7));
    }
}
