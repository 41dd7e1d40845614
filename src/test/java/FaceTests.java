import java.io.IOException;
import java.lang.reflect.Constructor;
import java.lang.reflect.Field;
import java.lang.reflect.Method;
import java.lang.reflect.Modifier;
import java.nio.file.Files;
import java.nio.file.Path;
import java.util.Arrays;
import java.util.Set;
import java.util.TreeSet;
import java.util.regex.Matcher;
import java.util.regex.Pattern;
import java.util.stream.Collectors;

/** The public face, and those rules of LANGUAGE.md that a look at the compiled class or at its source can tell. */
final class FaceTests {

    private static final String I = " throws IndexOutOfBoundsException";
    private static final String A = " throws IllegalArgumentException";
    private static final String IA = " throws IndexOutOfBoundsException, IllegalArgumentException";
    private static final String AS = " throws IllegalArgumentException, IllegalStateException";
    private static final String[] FACE = {
        "int fold(int)" + I, "int move(int, int)" + IA, "int pull(int)" + A, "int renew()", "int ask(int, int)" + IA,
        "int guess(int)" + A, "int forget()", "int append(int)" + AS, "int clearBuffer()", "int firstError()",
        "int load()" + A, "int keep(int)" + A, "int goBack(int)" + AS, "int undo() throws IllegalStateException",
        "int panelOf(int, int)" + IA, "int creaseOf(int, int)" + IA, "int between(int, int, int)" + IA,
        "int town(int)" + I, "int count(int)" + A, "int ifTouching(int, int)" + IA, "int bestQuestion()",
        "int folding(int)" + A, "int weakest()", "double sureShare()", "long digest()"};

    private static final Set<String> LIBRARY = Set.of("System.arraycopy", "Integer.bitCount", "Math.abs", "Math.max",
            "Math.min");
    private static final Set<String> THROWN = Set.of("IndexOutOfBoundsException", "IllegalArgumentException",
            "IllegalStateException");

    private static final Due DUE = new Due("FaceTests");

    public static void main(String[] args) throws Exception {
        publicFace();
        otherMembers();
        classesInside();
        bitsOfShares();
        shareOfNone();
        source(args.length > 0 ? args[0] : "src/main/java/CreaseMaps.java");
        DUE.end();
    }

    private static void publicFace() {
        Class<?> face = CreaseMaps.class;
        DUE.holds("public and final", face.getModifiers() == (Modifier.PUBLIC | Modifier.FINAL));
        Set<String> methods = new TreeSet<>();
        for (Method method : face.getDeclaredMethods()) {
            if (Modifier.isPublic(method.getModifiers())) {
                methods.add(told(method));
            }
        }
        DUE.sameText("the public methods", methods.toString(), new TreeSet<>(Arrays.asList(FACE)).toString());
        Constructor<?>[] constructors = face.getDeclaredConstructors();
        DUE.sameLong("constructors", constructors.length, 1);
        DUE.sameText("constructor", constructors[0].toString(), "public CreaseMaps()");
    }

    private static String told(Method method) {
        String parameters = Arrays.stream(method.getParameterTypes()).map(Class::getSimpleName)
                .collect(Collectors.joining(", "));
        String thrown = Arrays.stream(method.getExceptionTypes()).map(Class::getSimpleName)
                .collect(Collectors.joining(", "));
        return method.getReturnType().getSimpleName() + " " + method.getName() + "(" + parameters + ")"
                + (thrown.isEmpty() ? "" : " throws " + thrown);
    }

    private static void otherMembers() {
        Set<String> publicNames = new TreeSet<>();
        for (Method method : CreaseMaps.class.getDeclaredMethods()) {
            if (Modifier.isPublic(method.getModifiers())) {
                publicNames.add(method.getName());
            }
        }
        for (Method method : CreaseMaps.class.getDeclaredMethods()) {
            if (!Modifier.isPublic(method.getModifiers())) {
                DUE.holds(method + " is private", Modifier.isPrivate(method.getModifiers()));
                DUE.holds(method + " has a name of its own", !publicNames.contains(method.getName()));
            }
            DUE.holds(method + " has at most seven parameters", method.getParameterCount() <= 7);
        }
        for (Field field : CreaseMaps.class.getDeclaredFields()) {
            boolean constant = field.getName().equals("NONE");
            int want = constant ? Modifier.PUBLIC | Modifier.STATIC | Modifier.FINAL : Modifier.PRIVATE;
            DUE.holds(field + " is as it may be", (field.getModifiers() & want) == want);
        }
    }

    private static void classesInside() {
        Class<?>[] inside = CreaseMaps.class.getDeclaredClasses();
        DUE.holds("at most some twelve classes", inside.length < 12);
        for (Class<?> one : inside) {
            DUE.holds(one + " is private and static",
                    Modifier.isPrivate(one.getModifiers()) && Modifier.isStatic(one.getModifiers()));
            DUE.holds(one + " has at most twenty fields", one.getDeclaredFields().length <= 20);
            for (Field field : one.getDeclaredFields()) {
                DUE.holds(field + " is no static state", !Modifier.isStatic(field.getModifiers()));
            }
        }
    }

    /** Few of these shares can be reached by calls, so they are asked for behind the face. */
    private static void bitsOfShares() throws ReflectiveOperationException {
        Method bits = CreaseMaps.class.getDeclaredMethod("bitsOfShare", double.class);
        bits.setAccessible(true);
        DUE.sameLong("bits of 0.0", (Long) bits.invoke(null, 0.0), Double.doubleToLongBits(0.0));
        for (int fits = 1; fits <= 512; fits++) {
            double share = 1.0 / fits;
            DUE.sameLong("bits of 1/" + fits, (Long) bits.invoke(null, share), Double.doubleToLongBits(share));
        }
    }

    /**
     * "0.0 if none fits": the folding that is always fits, as every call that changes it takes the answers away; so the
     * one answer, that a panel lies where it lies, is made untrue behind the face.
     */
    private static void shareOfNone() throws ReflectiveOperationException {
        CreaseMaps maps = Made.loaded("|||||||||");
        maps.ask(0, 1);
        DUE.same("one answer, and all fit", maps.sureShare(), 1.0 / 512);
        CreaseMaps untrue = Made.loaded("|||||||||");
        untrue.ask(0, 1);
        Object answers = inside(inside(untrue, "now"), "answers");
        ((int[]) inside(answers, "meetings"))[0] = 0;
        DUE.same("none fits: sureShare()", untrue.sureShare(), 0.0);
        DUE.sameLong("none fits: told by all", untrue.count(4), 0);
        DUE.sameLong("none fits: told by walking", untrue.count(5), 0);
        DUE.sameLong("none fits: folding(0)", untrue.folding(0), -1);
        DUE.sameLong("none fits: folding(511)", untrue.folding(511), -1);
        DUE.sameLong("none fits: ifTouching(0, 1)", untrue.ifTouching(0, 1), 0);
    }

    private static Object inside(Object holder, String name) throws ReflectiveOperationException {
        Field field = holder.getClass().getDeclaredField(name);
        field.setAccessible(true);
        return field.get(holder);
    }

    private static void source(String file) throws IOException {
        String whole = Files.readString(Path.of(file));
        DUE.holds("only ASCII", whole.chars().allMatch(c -> c == '\n' || c >= 32 && c < 127));
        // Texts and comments are no code.
        String code = whole.replaceAll("\"[^\"\n]*\"", "\"\"").replaceAll("(?s)/\\*.*?\\*/", "").replaceAll("//[^\n]*", "");
        String[] words = {"import", "package", "catch", "try", "finally", "synchronized", "assert", "native", "volatile",
            "transient", "float", "instanceof", "equals", "hashCode", "toString", "Object", "NaN", "yield", "var"};
        for (String word : words) {
            DUE.holds("no " + word, !Pattern.compile("\\b" + word + "\\b").matcher(code).find());
        }
        for (String sign : new String[] {"->", "::", "static {", "@"}) {
            DUE.holds("no " + sign, !code.contains(sign));
        }
        all(code, "\\b(?:System|Math|Integer|Long|Double|Float|Arrays|String|Character)\\.\\w+", LIBRARY);
        all(code, "(?<=throw )[^;(]*", Set.of("new IndexOutOfBoundsException", "new IllegalArgumentException",
                "new IllegalStateException"));
        all(code, "\\b\\w+Exception\\b", THROWN);
        sizes(whole);
    }

    private static void all(String code, String pattern, Set<String> allowed) {
        Matcher matcher = Pattern.compile(pattern).matcher(code);
        while (matcher.find()) {
            DUE.holds(matcher.group() + " is allowed", allowed.contains(matcher.group()));
        }
    }

    private static void sizes(String whole) {
        int start = 0;
        String[] lines = whole.split("\n", -1);
        for (int i = 0; i < lines.length; i++) {
            DUE.holds("line " + (i + 1) + " has at most 120 characters", lines[i].length() <= 120);
            if (lines[i].matches(" {4}(?: {4})?\\S.*\\{") && !lines[i].contains(" class ")) {
                start = i;
            }
            if (lines[i].matches(" {4}(?: {4})?}") && start > 0) {
                DUE.holds("the method of line " + (start + 1) + " is short", i - start <= 60);
            }
        }
    }
}
