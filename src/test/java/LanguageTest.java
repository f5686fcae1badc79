import java.io.IOException;
import java.lang.reflect.Constructor;
import java.lang.reflect.Field;
import java.lang.reflect.Method;
import java.lang.reflect.Modifier;
import java.nio.file.Files;
import java.nio.file.Path;
import java.util.Arrays;
import java.util.List;
import java.util.Set;
import java.util.TreeSet;
import java.util.regex.Pattern;

/** The face of the document, and those rules of LANGUAGE.md that a look at the class and its text can tell. */
public final class LanguageTest {
    private static final Path SOURCE = Path.of("src/main/java/TaskBuild.java");
    private static final Set<String> FACE = Set.of(
        "int runnable(int,int,int)", "int needs(int,int,boolean)", "int area(int,int)", "int build()",
        "int task(int)", "int order(int,int)", "int rank(int)", "int buffer(int)", "int table(int,int)",
        "int ring(int)", "int cross(int)", "int budget(int,long)", "int differ(int)");
    private static final List<String> FORBIDDEN = List.of("\\bthrow\\b", "\\btry\\b", "\\bcatch\\b",
        "\\bsynchronized\\b", "\\bassert\\b", "->", "::", "\\bimport\\b", "\\bpackage\\b", "Exact\\b",
        "\\bstatic\\s*\\{", "\\bSystem\\.(?!arraycopy)", "\\bRandom\\b", "\\bThread\\b");
    private static final Due due = new Due();

    private LanguageTest() {
    }

    public static void main(String[] args) throws IOException {
        face();
        members();
        text();
        everyCallEnds();
        due.end();
    }

    private static void face() {
        due.part("rule 1, the face");
        int modifiers = TaskBuild.class.getModifiers();
        due.holds("the class is public and final", Modifier.isPublic(modifiers) && Modifier.isFinal(modifiers));
        Set<String> open = new TreeSet<>();
        for (Method method : TaskBuild.class.getDeclaredMethods()) {
            if (!Modifier.isPrivate(method.getModifiers())) {
                open.add(signature(method));
                due.holds(method + " is public", Modifier.isPublic(method.getModifiers()));
            }
        }
        due.holds("the methods are " + open, open.equals(FACE));
        Constructor<?>[] constructors = TaskBuild.class.getDeclaredConstructors();
        due.is("constructors", constructors.length, 1);
        due.is("the constructor's parameters", constructors[0].getParameterCount(), 0);
        due.holds("the constructor is public", Modifier.isPublic(constructors[0].getModifiers()));
        for (Field field : TaskBuild.class.getDeclaredFields()) {
            due.holds(field + " is private", Modifier.isPrivate(field.getModifiers()));
        }
    }

    private static String signature(Method method) {
        StringBuilder text = new StringBuilder();
        text.append(method.getReturnType().getSimpleName()).append(' ').append(method.getName()).append('(');
        for (Class<?> type : method.getParameterTypes()) {
            text.append(text.charAt(text.length() - 1) == '(' ? "" : ",").append(type.getSimpleName());
        }
        return text.append(')').toString();
    }

    private static void members() {
        due.part("rules 1, 5 and 11, the members");
        lookAt(TaskBuild.class);
        Class<?>[] inside = TaskBuild.class.getDeclaredClasses();
        due.holds("at most twelve classes", inside.length < 12);
        for (Class<?> type : inside) {
            int modifiers = type.getModifiers();
            due.holds(type + " is static and not open",
                Modifier.isStatic(modifiers) && !Modifier.isPublic(modifiers) && !Modifier.isProtected(modifiers));
            for (Method method : type.getDeclaredMethods()) {
                due.holds(method + " has a name of its own", !isNameOfFace(method.getName()));
            }
            lookAt(type);
        }
    }

    private static boolean isNameOfFace(String name) {
        return FACE.stream().anyMatch(signature -> signature.startsWith("int " + name + "("));
    }

    private static void lookAt(Class<?> type) {
        int fields = 0;
        for (Field field : type.getDeclaredFields()) {
            boolean isStatic = Modifier.isStatic(field.getModifiers());
            due.holds(field + " is final, being static", !isStatic || Modifier.isFinal(field.getModifiers()));
            fields += isStatic ? 0 : 1;
        }
        due.holds(type + " has at most twenty fields", fields <= 20);
        for (Method method : type.getDeclaredMethods()) {
            due.holds(method + " has at most seven parameters", method.getParameterCount() <= 7);
            due.holds(method + " has no name of the face, being private",
                !Modifier.isPrivate(method.getModifiers()) || !isNameOfFace(method.getName()));
        }
    }

    /** With numbers of every kind, in many states, and far behind the 512th call: a throw would end this test. */
    private static void everyCallEnds() {
        due.part("rule 7, no call may ever throw");
        callsOn(new TaskBuild());
        TaskBuild full = new TaskBuild();
        for (int n = 0; n < 24; n++) {
            full.runnable(n % 3, 1 + n % 2, n);
        }
        due.is("build()", full.build(), 12);
        callsOn(full);
    }

    private static void callsOn(TaskBuild x) {
        int[] numbers = {Integer.MIN_VALUE, -33, -21, -20, -1, 0, 1, 2, 12, 13, 20, 21, 24, 25, 26, 32, 33, 40, 41,
            1000, 1001, 100000, 100001, Integer.MAX_VALUE};
        for (int a : numbers) {
            for (int b : numbers) {
                int least = Math.min(changing(x, a, b), Math.min(x.build(), telling(x, a, b)));
                least = Math.min(least, changing(x, b, a));
                due.holds("answers for " + a + " and " + b + " are -4 or more", least >= -4);
            }
        }
    }

    private static int changing(TaskBuild x, int a, int b) {
        int needs = Math.min(x.needs(a, b, false), x.needs(a, b, true));
        return Math.min(Math.min(x.runnable(a, b, a), x.runnable(a, 1, b)), Math.min(needs, x.area(a, b)));
    }

    private static int telling(TaskBuild x, int a, int b) {
        int[] answers = {x.task(a), x.order(a, b), x.rank(a), x.buffer(a), x.table(a, b), x.ring(a), x.cross(a),
            x.budget(a, b), x.budget(a, b * (1L << 32)), x.differ(a)};
        return Arrays.stream(answers).min().getAsInt();
    }

    private static void text() throws IOException {
        due.part("rules 2, 4, 6 and 13, the text");
        String code = Files.readString(SOURCE).replaceAll("(?s)/\\*.*?\\*/", "").replaceAll("//[^\n]*", "");
        for (String word : FORBIDDEN) {
            due.holds("the text is without " + word, !Pattern.compile(word).matcher(code).find());
        }
    }
}
