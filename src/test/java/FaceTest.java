import java.io.IOException;
import java.lang.reflect.Field;
import java.lang.reflect.Method;
import java.lang.reflect.Modifier;
import java.nio.file.Files;
import java.nio.file.Path;
import java.util.ArrayList;
import java.util.Arrays;
import java.util.List;
import java.util.TreeSet;
import java.util.regex.Matcher;
import java.util.regex.Pattern;

/** The public face as the document shows it, and what LANGUAGE.md rules out of the source. */
final class FaceTest {
    private static final Path SOURCE = Path.of("src/main/java/SnailLaws.java");
    private static final Path DOCUMENT = Path.of("../shared/DOC.md");

    private static String shape(Method m) {
        StringBuilder out = new StringBuilder(m.getReturnType() + " " + m.getName());
        for (Class<?> type : m.getParameterTypes()) {
            out.append(' ').append(type);
        }
        return out.toString();
    }

    private static void face() throws IOException {
        TreeSet<String> want = new TreeSet<>();
        Matcher line = Pattern.compile("    public (int|long) (\\w+)\\(([^)]*)\\);").matcher(Files.readString(DOCUMENT));
        while (line.find()) {
            StringBuilder shape = new StringBuilder(line.group(1) + " " + line.group(2));
            for (String parameter : line.group(3).isEmpty() ? new String[0] : line.group(3).split(", ")) {
                shape.append(' ').append(parameter.split(" ")[0]);
            }
            want.add(shape.toString());
        }
        Check.due("methods of the document", want.size(), 49);
        TreeSet<String> got = new TreeSet<>();
        for (Method m : SnailLaws.class.getDeclaredMethods()) {
            boolean hidden = Modifier.isPrivate(m.getModifiers());
            if (!hidden) {
                got.add(shape(m));
                Check.due(m + " is public", m.getModifiers(), Modifier.PUBLIC);
            }
            boolean namedAlike = want.stream().anyMatch(w -> w.split(" ")[1].equals(m.getName()));
            Check.due(m + " hidden and named like a public one", hidden && namedAlike ? 1 : 0, 0);
        }
        Check.due("methods " + got + " for " + want, got.equals(want) ? 1 : 0, 1);
        Check.due("final", Modifier.isFinal(SnailLaws.class.getModifiers()) ? 1 : 0, 1);
        Check.due("constructors", SnailLaws.class.getDeclaredConstructors().length, 1);
    }

    private static void members() {
        List<Class<?>> all = new ArrayList<>(List.of(SnailLaws.class.getDeclaredClasses()));
        Check.due("classes at most 12", all.size() <= 12 ? 1 : 0, 1);
        for (Class<?> c : all) {
            int m = c.getModifiers();
            Check.due(c + " is static", Modifier.isStatic(m) && !Modifier.isPublic(m) && !Modifier.isProtected(m) ? 1 : 0, 1);
        }
        all.add(SnailLaws.class);
        for (Class<?> c : all) {
            int own = 0;
            for (Field f : c.getDeclaredFields()) {
                int m = f.getModifiers();
                own += Modifier.isStatic(m) ? 0 : 1;
                Check.due(f + " static, not final", Modifier.isStatic(m) && !Modifier.isFinal(m) ? 1 : 0, 0);
                Check.due(f + " private", c != SnailLaws.class || Modifier.isPrivate(m) ? 1 : 0, 1);
            }
            Check.due(c + " fields at most 20", own <= 20 ? 1 : 0, 1);
            for (Method method : c.getDeclaredMethods()) {
                Check.due(method + " parameters", method.getParameterCount() <= 7 ? 1 : 0, 1);
            }
        }
    }

    private static void source() throws IOException {
        String text = Files.readString(SOURCE);
        String code = text.replaceAll("(?s)/\\*.*?\\*/", " ").replaceAll("//[^\n]*", " ");
        String[] barred = {"\\bthrow\\b", "\\btry\\b", "\\bcatch\\b", "\\bsynchronized\\b", "\\bassert\\b", "->", "::",
            "\\bpackage\\b", "\\bprotected\\b", "Exact\\b", "\\bequals\\b", "\\bhashCode\\b", "\\btoString\\b",
            "\\bdouble\\b", "\\bfloat\\b", "\\bSystem\\.(?!arraycopy)", "\\bimport (?!java\\.util\\.(Arrays|ArrayList|List);)"};
        for (String word : barred) {
            Check.due("source holds " + word, Pattern.compile(word).matcher(code).find() ? 1 : 0, 0);
        }
        Check.due("signs of the source", text.chars().allMatch(c -> c < 128) ? 1 : 0, 1);
        List<String> lines = Arrays.asList(text.split("\n", -1));
        int head = -1;
        for (int i = 0; i < lines.size(); i++) {
            if (lines.get(i).matches(" {4}( {4})?\\w.*\\) \\{")) {
                head = i;
            }
            if (head >= 0 && lines.get(i).equals(lines.get(head).replaceAll("\\S.*", "") + "}")) {
                Check.due("lines of " + lines.get(head), i - head <= 60 ? 1 : 0, 1);
                head = -1;
            }
        }
    }

    public static void main(String[] args) throws IOException {
        face();
        members();
        source();
        Check.end("FaceTest");
    }
}
