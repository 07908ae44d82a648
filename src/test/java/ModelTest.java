import java.lang.reflect.Method;
import java.util.ArrayList;
import java.util.Arrays;
import java.util.List;
import java.util.Random;

/** Long runs of calls on fresh objects, each answer held against the model's. */
public final class ModelTest {
    private static final int RUNS = 4000;
    // The calls of a run stay below 512: those that are drawn, and four that look at each comment at the end.
    private static final int RANDOM_CALLS = 340;
    private static final int LOOKED_AT = 43;
    private static final int[] WILD = {Integer.MIN_VALUE, -2, -1, 13, 60, 61, 100, 2001, 100001, Integer.MAX_VALUE};
    private static final String[] NAMES = {"word", "wipe", "unit", "emend", "textOf", "author", "meant", "comment",
        "gloss", "told", "standsAnew", "isHard", "solved", "found", "exact", "ruling", "follow", "unfollow",
        "decided", "edition", "address", "pages", "row", "holds", "daily"};
    // Calls that make something come more often than their share, or the later ones would find nothing.
    private static final int[] SHARES = {30, 1, 10, 14, 4, 4, 4, 18, 26, 10, 6, 5, 6, 3, 3, 12, 5, 2, 8, 4, 5, 3, 8, 3, 5};

    private static final int TOLD = Arrays.asList(NAMES).indexOf("told");
    private static final int ROW = Arrays.asList(NAMES).indexOf("row");
    private static final Method[] OF_PAGE = methodsOf(GlossedPage.class);
    private static final Method[] OF_MODEL = methodsOf(Model.class);

    private final Random random;
    private final int mostWord;
    private final GlossedPage page = new GlossedPage();
    private final Model model = new Model();
    private final List<String> told = new ArrayList<>();

    private ModelTest(int run) {
        random = new Random(run);
        mostWord = 1 + random.nextInt(run % 3 == 0 ? 2 : run % 3 == 1 ? 8 : 59);
    }

    public static void main(String[] args) {
        for (int run = 0; run < RUNS; run++) {
            new ModelTest(run).run(run);
        }
        Check.close();
    }

    private void run(int run) {
        boolean isRight = true;
        for (int call = 0; call < RANDOM_CALLS && isRight; call++) {
            int which = choose();
            isRight = compare(run, which, arguments(which));
        }
        for (int comment = 0; comment < model.comments() && comment < LOOKED_AT && isRight; comment++) {
            isRight = compare(run, TOLD, new int[] {comment, 2})
                && compare(run, TOLD, new int[] {comment, 3})
                && compare(run, TOLD, new int[] {comment, 4})
                && compare(run, ROW, new int[] {comment});
        }
    }

    private boolean compare(int run, int which, int[] with) {
        String want = Check.outcome(model, OF_MODEL[which], with);
        String got = Check.outcome(page, OF_PAGE[which], with);
        told.add(describe(which, with) + " = " + got);
        Check.due("run " + run + ": " + describe(which, with), got, want);
        if (!got.equals(want)) {
            System.out.println(String.join("; ", told));
        }
        return got.equals(want);
    }

    private int choose() {
        int sum = 0;
        for (int share : SHARES) {
            sum += share;
        }
        int left = random.nextInt(sum);
        int which = 0;
        while (left >= SHARES[which]) {
            left -= SHARES[which];
            which++;
        }
        return which;
    }

    private static String describe(int which, int[] with) {
        StringBuilder text = new StringBuilder(NAMES[which]).append('(');
        for (int n = 0; n < with.length; n++) {
            text.append(n == 0 ? "" : ", ").append(with[n]);
        }
        return text.append(')').toString();
    }

    /** Up to most, or now and then something wild. */
    private int upTo(int most) {
        return random.nextInt(60) == 0 ? WILD[random.nextInt(WILD.length)] : random.nextInt(most + 1);
    }

    private int[] arguments(int which) {
        switch (NAMES[which]) {
            case "word":
                return new int[] {upTo(mostWord)};
            case "emend":
                return new int[] {upTo(8), upTo(7), random.nextInt(3) == 0 ? -1 : upTo(mostWord)};
            case "textOf":
                return new int[] {upTo(8), upTo(12)};
            case "author":
                return new int[] {upTo(5), upTo(3), upTo(2)};
            case "meant":
                return new int[] {upTo(2), upTo(6)};
            case "comment":
                return comment();
            case "gloss":
                return new int[] {upTo(5), upTo(model.comments()), upTo(4), 1 + upTo(8), upTo(1)};
            case "told":
                return new int[] {upTo(model.comments()), upTo(6)};
            case "ruling":
                return new int[] {upTo(10), upTo(9), random.nextInt(2)};
            case "follow":
                return new int[] {upTo(3), upTo(random.nextBoolean() ? 3 : 19)};
            case "edition":
                return new int[] {1 + upTo(11), 1 + upTo(random.nextBoolean() ? 9 : 59)};
            case "address":
                return new int[] {upTo(7), upTo(19)};
            case "wipe": case "unit": case "found": case "exact":
                return new int[] {};
            default:
                return new int[] {upTo(most(NAMES[which]))};
        }
    }

    private int[] comment() {
        int unit = upTo(6);
        boolean isRare = random.nextInt(4) == 0;
        int nth = 1 + upTo(isRare ? 2 : 0);
        return new int[] {upTo(5), unit, upTo(4), isRare ? upTo(mostWord) : wordOf(unit), nth, 1 + upTo(8), upTo(1)};
    }

    /** A word that stands in a unit, so that one can comment on it. */
    private int wordOf(int unit) {
        int word = GlossedPage.NONE;
        for (int tries = 0; tries < 9 && word == GlossedPage.NONE; tries++) {
            word = model.wordIn(unit, random.nextInt(12));
        }
        return word;
    }

    private static int most(String name) {
        switch (name) {
            case "standsAnew": case "row":
                return 30;
            case "isHard":
                return 10;
            case "solved":
                return 3;
            case "unfollow":
                return 5;
            case "decided":
                return 9;
            case "daily":
                return 100;
            default:
                return 7;
        }
    }

    private static Method[] methodsOf(Class<?> asked) {
        Method[] methods = new Method[NAMES.length];
        for (Method method : asked.getDeclaredMethods()) {
            int which = Arrays.asList(NAMES).indexOf(method.getName());
            if (which >= 0) {
                methods[which] = method;
            }
        }
        return methods;
    }
}
