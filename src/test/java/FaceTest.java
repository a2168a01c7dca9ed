import java.io.IOException;
import java.lang.reflect.Constructor;
import java.lang.reflect.Field;
import java.lang.reflect.Method;
import java.lang.reflect.Modifier;
import java.nio.file.Files;
import java.nio.file.Path;
import java.util.Arrays;
import java.util.Set;
import java.util.TreeSet;
import java.util.regex.Matcher;
import java.util.regex.Pattern;

/** The public face is the document's, and nothing else can be seen from outside. */
public final class FaceTest {
    private static final Checks CHECKS = new Checks();
    private static final Path DOCUMENT = Path.of("../shared/DOC.md");

    public static void main(String[] args) throws IOException {
        faceIsTheDocuments();
        nothingElseIsOpen();
        classesInside();
        CHECKS.close();
    }

    private static void due(String what, boolean isSo) {
        CHECKS.due(what, isSo ? 1 : 0, 1);
    }

    private static void faceIsTheDocuments() throws IOException {
        Set<String> want = new TreeSet<>();
        Pattern face = Pattern.compile("    public int (\\w+)\\(([^)]*)\\);");
        for (String line : Files.readAllLines(DOCUMENT)) {
            Matcher m = face.matcher(line);
            if (m.matches()) {
                int ints = m.group(2).isEmpty() ? 0 : m.group(2).split(",").length;
                want.add(m.group(1) + " " + ints);
            }
        }
        Set<String> got = new TreeSet<>();
        for (Method method : FailBadge.class.getDeclaredMethods()) {
            if (Modifier.isPublic(method.getModifiers())) {
                got.add(method.getName() + " " + method.getParameterCount());
                due(method + " is of ints", method.getReturnType() == int.class
                        && Arrays.stream(method.getParameterTypes()).allMatch(t -> t == int.class)
                        && !Modifier.isStatic(method.getModifiers()));
            }
        }
        due("35 methods", want.size() == 35);
        due("the document's methods: " + want + ", these: " + got, want.equals(got));
        due("final", Modifier.isFinal(FailBadge.class.getModifiers()));
        due("public", Modifier.isPublic(FailBadge.class.getModifiers()));
    }

    private static void nothingElseIsOpen() {
        Set<String> open = new TreeSet<>();
        for (Method method : FailBadge.class.getDeclaredMethods()) {
            if (Modifier.isPublic(method.getModifiers())) {
                open.add(method.getName());
            }
        }
        for (Method method : FailBadge.class.getDeclaredMethods()) {
            int how = method.getModifiers();
            due(method + " is public or private", Modifier.isPublic(how) || Modifier.isPrivate(how));
            due(method + " has a name of its own",
                    Modifier.isPublic(how) || !open.contains(method.getName()));
        }
        for (Field field : FailBadge.class.getDeclaredFields()) {
            due(field + " is private", field.getName().equals("NONE")
                    || Modifier.isPrivate(field.getModifiers()));
        }
        Constructor<?>[] made = FailBadge.class.getDeclaredConstructors();
        due("one constructor", made.length == 1 && made[0].getParameterCount() == 0
                && Modifier.isPublic(made[0].getModifiers()));
    }

    private static void classesInside() {
        for (Class<?> c : FailBadge.class.getDeclaredClasses()) {
            int how = c.getModifiers();
            due(c + " is static", Modifier.isStatic(how));
            due(c + " is private or package-visible",
                    !Modifier.isPublic(how) && !Modifier.isProtected(how));
        }
    }
}
