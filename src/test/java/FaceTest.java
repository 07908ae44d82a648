import java.io.IOException;
import java.lang.management.ManagementFactory;
import java.lang.reflect.Constructor;
import java.lang.reflect.Field;
import java.lang.reflect.Method;
import java.lang.reflect.Modifier;
import java.nio.file.Files;
import java.nio.file.Path;
import java.util.Arrays;
import java.util.Set;
import java.util.TreeSet;
import java.util.regex.Pattern;

/** The face of the class, and the rules of LANGUAGE.md that can be seen in its text or counted while it runs. */
public final class FaceTest {
    private static final Path SOURCE = Path.of("src/main/java/GlossedPage.java");
    private static final String[] METHODS = {
        "int word(int) A S", "int wipe()", "int unit() S", "int emend(int,int,int) I A S", "int textOf(int,int) I",
        "int author(int,int,int) A S", "int meant(int,int) A", "int comment(int,int,int,int,int,int,int) I A S",
        "int gloss(int,int,int,int,int) I A S", "int told(int,int) I A", "boolean standsAnew(int) I",
        "boolean isHard(int) I", "int solved(int) A", "int found()", "int exact()",
        "int ruling(int,int,boolean) I S", "int follow(int,int) A S", "int unfollow(int) I", "int decided(int) I",
        "int edition(int,int) A S", "int address(int,int) I", "int pages(int) I", "int row(int) I",
        "int holds(int) I", "int daily(int) A"};
    private static final String[] CONSTANTS = {"NONE", "QUESTION", "OBJECTION", "PROOF", "ANSWER", "NOTE", "INNER",
        "OUTER", "SCHOOL", "LATEST", "MOST", "EXCEPT"};
    private static final String[] FORBIDDEN = {"\\bpackage\\b", "->", "::", "\\btry\\b", "\\bcatch\\b", "\\bfinally\\b",
        "\\bsynchronized\\b", "\\bassert\\b", "\\bprotected\\b", "\\bvar\\b", "\\bMath\\.\\w+Exact\\b", "\\bSystem\\.",
        "\\bThrowable\\b", "[^\\x00-\\x7f]", "\\bimport (?!java\\.util\\.Arrays;)"};

    private FaceTest() {
    }

    public static void main(String[] args) throws IOException {
        face();
        nestedNames();
        text(Files.readString(SOURCE));
        room();
        Check.close();
    }

    private static void face() {
        Set<String> methods = new TreeSet<>();
        for (Method method : GlossedPage.class.getDeclaredMethods()) {
            if (!Modifier.isPrivate(method.getModifiers())) {
                methods.add(describe(method));
            }
        }
        Check.due("the methods", methods.toString(), new TreeSet<>(Arrays.asList(METHODS)).toString());
        Set<String> constants = new TreeSet<>();
        for (Field field : GlossedPage.class.getDeclaredFields()) {
            if (!Modifier.isPrivate(field.getModifiers())) {
                constants.add(field.getName());
                Check.due(field.getName() + " is", Modifier.toString(field.getModifiers()), "public static final");
            }
        }
        Check.due("the constants", constants.toString(), new TreeSet<>(Arrays.asList(CONSTANTS)).toString());
        Check.due("the class is", Modifier.toString(GlossedPage.class.getModifiers()), "public final");
        Constructor<?>[] constructors = GlossedPage.class.getDeclaredConstructors();
        Check.due("the constructors", Arrays.toString(constructors), "[public GlossedPage()]");
    }

    private static String describe(Method method) {
        StringBuilder text = new StringBuilder(method.getReturnType() + " " + method.getName() + "(");
        for (int n = 0; n < method.getParameterCount(); n++) {
            text.append(n == 0 ? "" : ",").append(method.getParameterTypes()[n]);
        }
        text.append(")");
        for (Class<?> thrown : method.getExceptionTypes()) {
            text.append(thrown == IndexOutOfBoundsException.class ? " I"
                : thrown == IllegalArgumentException.class ? " A"
                : thrown == IllegalStateException.class ? " S" : " ?");
        }
        return text.toString();
    }

    private static void nestedNames() {
        Set<String> names = new TreeSet<>();
        for (String method : METHODS) {
            names.add(method.substring(method.indexOf(' ') + 1, method.indexOf('(')));
        }
        for (Class<?> nested : GlossedPage.class.getDeclaredClasses()) {
            Check.due(nested + " is", Modifier.toString(nested.getModifiers()), "private static final");
            Check.due("rule 11: the fields of " + nested, nested.getDeclaredFields().length <= 20, true);
            for (Method method : nested.getDeclaredMethods()) {
                Check.due("rule 1: " + method, names.contains(method.getName()), false);
                Check.due("rule 11: the parameters of " + method, method.getParameterCount() <= 7, true);
            }
        }
        for (Method method : GlossedPage.class.getDeclaredMethods()) {
            boolean isPrivate = Modifier.isPrivate(method.getModifiers());
            Check.due("rule 1: " + method, isPrivate && names.contains(method.getName()), false);
        }
        Check.due("rule 11: the classes", GlossedPage.class.getDeclaredClasses().length <= 12, true);
    }

    private static void text(String source) {
        for (String forbidden : FORBIDDEN) {
            Check.due("the text has " + forbidden, Pattern.compile(forbidden).matcher(source).find(), false);
        }
        Pattern thrown = Pattern.compile(
            "throw new (IllegalState|IllegalArgument|IndexOutOfBounds)Exception\\(\"[^\"]*\"\\);");
        long throwing = Pattern.compile("\\bthrow\\b").matcher(source).results().count();
        Check.due("rule 6: throws", thrown.matcher(source).results().count(), throwing);
    }

    /** Rule 12: a call makes nothing, so that only objects themselves and exceptions fill the room. */
    private static void room() {
        com.sun.management.ThreadMXBean threads =
            (com.sun.management.ThreadMXBean) ManagementFactory.getThreadMXBean();
        GlossedPage page = new GlossedPage();
        calls(page);
        long thread = Thread.currentThread().getId();
        threads.getThreadAllocatedBytes(thread);
        GlossedPage fresh = new GlossedPage();
        long ahead = threads.getThreadAllocatedBytes(thread);
        calls(fresh);
        long behind = threads.getThreadAllocatedBytes(thread);
        Check.due("rule 12: bytes that the calls made", behind - ahead < 1024, true);
    }

    private static void calls(GlossedPage page) {
        page.author(0, 0, 0);
        for (int unit = 0; unit < 20; unit++) {
            for (int word = 0; word < 12; word++) {
                page.word(word);
            }
            page.found();
            page.exact();
            page.unit();
            page.comment(0, unit, 0, unit % 12, 1, 9, unit % 2);
            page.gloss(0, unit, 3, 9, unit % 2);
        }
        for (int edition = 0; edition < 8; edition++) {
            page.emend(edition, 0, 59);
            page.emend(edition, 0, -1);
            page.edition(1, 60);
            page.address(edition, 0);
            page.pages(edition);
            page.holds(edition);
            page.row(edition);
            page.told(edition, 4);
            page.standsAnew(edition);
            page.isHard(edition);
            page.daily(edition);
            page.textOf(edition, 0);
            page.ruling(0, edition, true);
        }
        page.follow(0, 0);
        page.decided(0);
        page.unfollow(0);
        page.solved(0);
        page.meant(0, 0);
        page.wipe();
    }
}
