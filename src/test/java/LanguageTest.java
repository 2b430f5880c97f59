import java.io.IOException;
import java.lang.reflect.Field;
import java.lang.reflect.Method;
import java.lang.reflect.Modifier;
import java.nio.file.Files;
import java.nio.file.Path;
import java.util.ArrayList;
import java.util.List;
import java.util.Set;
import java.util.TreeSet;
import java.util.regex.Matcher;
import java.util.regex.Pattern;

/** What a program can see of ../shared/LANGUAGE.md: the face, the words, the sizes, and that no call makes an object. */
public final class LanguageTest {
    private static final Due due = new Due();
    private static final String FACE = "street() wet(II) glove(III) crossing(II) type(I) clear() read() hours(I) shuts(I) "
            + "undo() of(II) about(II) where(II) when(I) pairs(I) heap(I) hold(I) drop(III) seen(II) which() tell() "
            + "note(IIII) mark(IIII) forget(I) is(I) look(I) kinds(I) ask(I) lady(II) rain(I) winters(II) part(I) "
            + "image(I) from(I) status(I) count(I) digest()";

    public static void main(String[] args) throws IOException {
        face();
        names();
        String source = Files.readString(Path.of("src/main/java/GloveRail.java"));
        due.is("signs beyond 127", source.chars().filter(c -> c > 127).count(), 0);
        String code = source.replaceAll("(?s)/\\*.*?\\*/", "").replaceAll("//[^\\n]*", "");
        words(code);
        sizes(code);
        makesNothingInCalls(code);
        due.end();
    }

    private static void face() {
        Set<String> found = new TreeSet<>();
        for (Method method : GloveRail.class.getDeclaredMethods()) {
            if (Modifier.isPublic(method.getModifiers())) {
                found.add(method.getName() + "(" + "I".repeat(method.getParameterCount()) + ")");
                Class<?> answer = Set.of("part", "digest").contains(method.getName()) ? long.class : int.class;
                due.is("the answer of " + method, method.getReturnType() == answer ? 1 : 0, 1);
            } else {
                due.is("not public, so private: " + method, Modifier.isPrivate(method.getModifiers()) ? 1 : 0, 1);
            }
        }
        Set<String> told = new TreeSet<>(List.of(FACE.split(" ")));
        due.is("the face, found " + found, found.equals(told) ? 1 : 0, 1);
        Set<String> constants = new TreeSet<>();
        for (Field field : GloveRail.class.getDeclaredFields()) {
            if (!Modifier.isPrivate(field.getModifiers())) {
                constants.add(Modifier.toString(field.getModifiers()) + " " + field.getName());
            }
        }
        due.is("the constants, found " + constants, constants.equals(Set.of("public static final NONE",
                "public static final BAD", "public static final NO", "public static final FULL")) ? 1 : 0, 1);
        due.is("public and final", GloveRail.class.getModifiers(), Modifier.PUBLIC | Modifier.FINAL);
    }

    private static void names() {
        Set<String> publicNames = new TreeSet<>();
        for (String call : FACE.split(" ")) {
            publicNames.add(call.substring(0, call.indexOf('(')));
        }
        List<Class<?>> all = new ArrayList<>(List.of(GloveRail.class.getDeclaredClasses()));
        due.is("classes are static, and not public", all.stream().filter(c -> !Modifier.isStatic(c.getModifiers())
                || Modifier.isPublic(c.getModifiers()) || Modifier.isProtected(c.getModifiers())).count(), 0);
        all.add(GloveRail.class);
        due.is("twelve classes at most", Math.max(12, all.size()), 12);
        for (Class<?> c : all) {
            int fields = 0;
            for (Field field : c.getDeclaredFields()) {
                boolean isStatic = Modifier.isStatic(field.getModifiers());
                fields += isStatic ? 0 : 1;
                due.is("static fields are final: " + field, isStatic && !Modifier.isFinal(field.getModifiers()) ? 1 : 0, 0);
            }
            due.is("twenty fields at most: " + c, Math.max(20, fields), 20);
            for (Method method : c.getDeclaredMethods()) {
                boolean own = c == GloveRail.class && Modifier.isPublic(method.getModifiers());
                due.is("a public one's name: " + method, !own && publicNames.contains(method.getName()) ? 1 : 0, 0);
                due.is("seven parameters at most: " + method, Math.max(7, method.getParameterCount()), 7);
            }
        }
    }

    private static void words(String code) {
        String[] never = {"\\b(throw|throws|try|catch|finally|synchronized|assert|record|import|package|native|volatile)\\b",
            "->", "::", "\\b(equals|hashCode|toString|getClass|wait|notify)\\b", "\\w+Exact\\b", "\\.\\.\\.", "@",
            "\\b(Random|Thread|Runtime|Object|Exception|Error|nanoTime|currentTimeMillis|MAX_VALUE|MIN_VALUE)\\b"};
        for (String word : never) {
            Matcher found = Pattern.compile(word).matcher(code);
            due.is("never " + word + (found.find() ? ", found " + found.group() : ""), found.reset().find() ? 1 : 0, 0);
        }
        Set<String> library = new TreeSet<>(Set.of("System.arraycopy", "Math.max", "Math.min", "Math.abs", "Integer.bitCount",
                "Integer.numberOfTrailingZeros"));
        Matcher used = Pattern.compile("\\b(System|Math|Integer|Long|Character|String|Arrays)\\.\\w+").matcher(code);
        while (used.find()) {
            due.is("of the library: " + used.group(), library.contains(used.group()) ? 1 : 0, 1);
        }
    }

    private static void sizes(String code) {
        Pattern head = Pattern.compile("^( +)(?:[\\w\\[\\]]+ )+\\w+\\([^;]*\\) \\{$");
        String[] lines = code.split("\\n");
        int methods = 0;
        for (int i = 0; i < lines.length; i++) {
            Matcher method = head.matcher(lines[i]);
            if (method.matches() && !lines[i].matches(" +(if|for|while|switch|else|return).*")) {
                int end = i;
                while (!lines[end].equals(method.group(1) + "}")) {
                    end++;
                }
                methods++;
                due.is("sixty lines at most: " + lines[i].trim(), Math.max(60, end - i + 1), 60);
            }
        }
        due.is("the methods were found", Math.max(100, methods), methods);
    }

    /** All calls of a run live in one room, so that rows are made once, in the fields. */
    private static void makesNothingInCalls(String code) {
        for (String line : code.split("\\n")) {
            if (line.matches(".*\\bnew\\b.*")) {
                due.is("made in a field: " + line.trim(), line.matches(" {4,8}(private )?final [\\w\\[\\]]+ \\w+ = new .*;") ? 1 : 0, 1);
            }
        }
    }
}
