import java.io.IOException;
import java.lang.reflect.Constructor;
import java.lang.reflect.Field;
import java.lang.reflect.Method;
import java.lang.reflect.Modifier;
import java.nio.file.Files;
import java.nio.file.Path;
import java.util.ArrayList;
import java.util.Arrays;
import java.util.List;
import java.util.Set;
import java.util.TreeSet;
import java.util.regex.Pattern;

/** The public face of the document, and what of the language's rules can be seen from outside or in the text. */
public final class FaceTests {
    private static final Path DOCUMENT = Path.of("../shared/DOC.md");
    private static final Path SOURCE = Path.of("src/main/java/RumourPipes.java");

    // LANGUAGE.md, rules 1, 2, 4, 6 and 13.
    private static final String[] NOT_ALLOWED = {
        "^\\s*import ", "^\\s*package ", "->", "::", "\\btry\\b", "\\bcatch\\b", "\\bfinally\\b", "Exact\\b",
        "\\bassert\\b", "\\bsynchronized\\b", "\\bSystem\\.(?!arraycopy)", "\\bThread\\b", "\\bRandom\\b",
        "\\bMath\\.(?!(max|min|abs)\\b)", "\\bstatic\\s*\\{", "\\b(equals|hashCode|toString)\\b", "\" \\+|\\+ \"",
    };
    // Rows are made in fields and constructors; a call makes nothing but the exception that it throws.
    private static final String MADE_ONCE =
        "private final |throw new |started\\[i\\] = new Rumour\\(\\)|lifts\\[i\\] = new Lift\\(\\)";

    public static void main(String[] args) throws IOException {
        faceIsThatOfTheDocument();
        nothingElseIsVisible();
        sourceKeepsToTheRules();
        objectsAreMadeOnce();
        Check.end();
    }

    private static void faceIsThatOfTheDocument() throws IOException {
        Set<String> due = new TreeSet<>();
        for (String line : Files.readAllLines(DOCUMENT)) {
            if (line.startsWith("    public ")) {
                due.add(line.strip().replaceAll("(int|long|boolean|double) \\w+(?=[,)])", "$1"));
            }
        }
        Set<String> got = new TreeSet<>();
        for (Method method : RumourPipes.class.getDeclaredMethods()) {
            if (Modifier.isPublic(method.getModifiers())) {
                got.add(shown(method));
            }
        }
        for (Constructor<?> constructor : RumourPipes.class.getDeclaredConstructors()) {
            got.add(constructor.toString() + ";");
        }
        Check.same("methods and constructors of the document", 46, due.size());
        for (String member : due) {
            Check.is("the face has: " + member, got.remove(member));
        }
        Check.is("the face has nothing besides, but there is " + got, got.isEmpty());
    }

    private static String shown(Method method) {
        List<String> kinds = new ArrayList<>();
        for (Class<?> kind : method.getParameterTypes()) {
            kinds.add(kind.getSimpleName());
        }
        List<String> thrown = new ArrayList<>();
        for (Class<?> kind : method.getExceptionTypes()) {
            thrown.add(kind.getSimpleName());
        }
        return "public " + method.getReturnType() + " " + method.getName() + "(" + String.join(", ", kinds) + ")"
            + (thrown.isEmpty() ? "" : " throws " + String.join(", ", thrown)) + ";";
    }

    private static void nothingElseIsVisible() {
        Set<String> publicNames = new TreeSet<>();
        for (Method method : RumourPipes.class.getDeclaredMethods()) {
            if (Modifier.isPublic(method.getModifiers())) {
                publicNames.add(method.getName());
            }
        }
        Check.is("the class is final", Modifier.isFinal(RumourPipes.class.getModifiers()));
        List<Class<?>> classes = new ArrayList<>(Arrays.asList(RumourPipes.class.getDeclaredClasses()));
        classes.add(RumourPipes.class);
        for (Class<?> of : classes) {
            for (Field field : of.getDeclaredFields()) {
                Check.is(field + " is private", Modifier.isPrivate(field.getModifiers()));
                boolean keeps = !Modifier.isStatic(field.getModifiers()) || Modifier.isFinal(field.getModifiers());
                Check.is(field + " is final, if static", keeps);
            }
            for (Method method : of.getDeclaredMethods()) {
                boolean visible = of == RumourPipes.class && Modifier.isPublic(method.getModifiers());
                Check.is(method + " bears no public name", visible || !publicNames.contains(method.getName()));
                Check.is(method + " takes seven at most", method.getParameterCount() <= 7);
                boolean hidden = of != RumourPipes.class || Modifier.isPrivate(method.getModifiers());
                Check.is(method + " is public or hidden", visible || hidden);
            }
        }
    }

    private static void sourceKeepsToTheRules() throws IOException {
        List<String> lines = Files.readAllLines(SOURCE);
        for (String pattern : NOT_ALLOWED) {
            Pattern wrong = Pattern.compile(pattern);
            for (int i = 0; i < lines.size(); i++) {
                Check.is("line " + (i + 1) + " is without " + pattern, !wrong.matcher(lines.get(i)).find());
            }
        }
    }

    private static void objectsAreMadeOnce() throws IOException {
        Pattern made = Pattern.compile("\\bnew\\b");
        Pattern allowed = Pattern.compile(MADE_ONCE);
        for (String line : Files.readAllLines(SOURCE)) {
            Check.is("made once: " + line.strip(), !made.matcher(line).find() || allowed.matcher(line).find());
        }
    }
}
