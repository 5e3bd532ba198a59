import java.io.IOException;
import java.lang.reflect.Constructor;
import java.lang.reflect.Field;
import java.lang.reflect.Member;
import java.lang.reflect.Method;
import java.lang.reflect.Modifier;
import java.nio.file.Files;
import java.nio.file.Path;
import java.util.Set;
import java.util.TreeSet;
import java.util.regex.Matcher;
import java.util.regex.Pattern;

/**
 * What a test can see of LANGUAGE.md: the face (rule 1), no forbidden words and no class of the
 * library but those listed (rules 2, 4, 6, 13). Run from the project's root.
 */
public final class LanguageTest {
    private static final Path SOURCE = Path.of("src/main/java/VersionMerge.java");
    private static final Set<String> FACE = Set.of("branch(int)", "put(int,int,boolean)",
            "blank(int,int,int)", "head(int)", "base(int,int)", "merge(int,int)", "conflict(int,int)",
            "patch(int,int,int)", "inverse(int)", "apply(int,int)", "revert(int,int)",
            "history(int,int)", "report(int)", "list(int,int)", "versions()", "branches()");
    private static final Pattern FORBIDDEN = Pattern.compile("\\b(package|import|throw|throws|try|catch|"
            + "finally|synchronized|assert|protected|native|volatile|transient|strictfp|instanceof)\\b"
            + "|->|::|\\*;|\"|@");
    private static final Set<String> LIBRARY = Set.of("System.arraycopy", "Long.bitCount", "Math.min");
    private static final Pattern LIBRARY_USE = Pattern.compile(
            "\\b(System|Long|Integer|Math|Arrays|Character|Boolean|Objects|Thread|Runtime|Object)\\.\\w+");

    private static final Answers answers = new Answers();

    private static void face() {
        Set<String> seen = new TreeSet<>();
        Set<String> hidden = new TreeSet<>();
        for (Method method : VersionMerge.class.getDeclaredMethods()) {
            String text = method.toString();
            String name = method.getName();
            if (Modifier.isPublic(method.getModifiers())) {
                answers.due(name + " answers an int", method.getReturnType() == int.class ? 1 : 0, 1);
                seen.add(name + text.substring(text.indexOf('(')));
            } else {
                duePrivate(method);
                hidden.add(name);
            }
        }
        answers.due("the face " + seen, seen.equals(FACE) ? 1 : 0, 1);
        for (Class<?> inside : VersionMerge.class.getDeclaredClasses()) {
            answers.due(inside + " is static", Modifier.isStatic(inside.getModifiers()) ? 1 : 0, 1);
            for (Method method : inside.getDeclaredMethods()) {
                hidden.add(method.getName());
            }
        }
        for (String open : FACE) {
            String name = open.substring(0, open.indexOf('('));
            answers.due("a private method " + name, hidden.contains(name) ? 1 : 0, 0);
        }
        for (Field field : VersionMerge.class.getDeclaredFields()) {
            duePrivate(field);
        }
        Constructor<?>[] constructors = VersionMerge.class.getDeclaredConstructors();
        answers.due("constructors", constructors.length, 1);
    }

    private static void duePrivate(Member member) {
        answers.due(member + " is private", Modifier.isPrivate(member.getModifiers()) ? 1 : 0, 1);
    }

    private static void words(String code) {
        Matcher forbidden = FORBIDDEN.matcher(code);
        while (forbidden.find()) {
            answers.due("forbidden: " + forbidden.group(), 1, 0);
        }
        Matcher use = LIBRARY_USE.matcher(code);
        while (use.find()) {
            answers.due("library: " + use.group(), LIBRARY.contains(use.group()) ? 1 : 0, 1);
        }
    }

    public static void main(String[] args) throws IOException {
        String code = Files.readString(SOURCE).replaceAll("(?s)/\\*.*?\\*/", "").replaceAll("//.*", "");
        face();
        words(code);
        answers.end("LanguageTest");
    }
}
