import java.lang.reflect.Field;
import java.lang.reflect.Member;
import java.lang.reflect.Method;
import java.lang.reflect.Modifier;
import java.nio.file.Files;
import java.nio.file.Path;
import java.util.ArrayList;
import java.util.Arrays;
import java.util.List;
import java.util.Set;
import java.util.TreeSet;
import java.util.regex.Matcher;
import java.util.regex.Pattern;

/** The public face, and the rules of LANGUAGE.md that a look at the class and its source can tell. */
final class FaceTest {
    private static final String[] FACE = {
        "int world(int)", "int belief(int,int)", "int change(int,int,int)", "int way(int,int,int)",
        "int bird(int,int,int)", "int type(int)", "int clear()", "int read()", "int tell(int,int,int,boolean)",
        "int evening()", "int undo()", "int of(int,int)", "int about(int,int)", "int hours(int,int)",
        "int sure(int,int,int,int)", "int ahead(int,int)", "int worth(int,int)", "int send(int,int)",
        "int third(int)", "int plan(int,int,int)", "int noon(int,int)", "int mixed(int,int,int,int)",
        "int round(int,int,int,int)", "int crow(int,int,boolean)", "int hush()", "int liars(int)",
        "int leftOut(int,int,int,int)", "int mornings(int,int)", "int image(int)", "int from(int)",
        "int status(int)", "int count(int)", "long digest()"};
    private static final String[] NOT_IN_IT = {
        "\\bthrow\\b", "\\btry\\b", "\\bcatch\\b", "\\bsynchronized\\b", "\\bassert\\b", "\\bpackage\\b", "\\bvar\\b",
        "->", "::", "\\bSystem\\.(?!arraycopy)", "MAX_VALUE", "MIN_VALUE", "\\w+Exact\\b", "\\bInteger\\.(?!bitCount)",
        "\\bprotected\\b", "\\bimport\\b", "\"\\s*\\+", "\\+\\s*\"", "static\\s*\\{"};
    private static final Check check = new Check();

    public static void main(String[] args) throws Exception {
        constructor();
        constants();
        methods();
        namesInside();
        source();
        rowsOfConstructors();
        check.end();
    }

    private static void constructor() {
        Class<?> c = RavenSupper.class;
        check.due("the class is final", Modifier.isFinal(c.getModifiers()) ? 1 : 0, 1);
        check.due("constructors", c.getDeclaredConstructors().length, 1);
        check.due("the constructor is public", Modifier.isPublic(c.getDeclaredConstructors()[0].getModifiers()) ? 1 : 0, 1);
        check.due("it takes nothing", c.getDeclaredConstructors()[0].getParameterCount(), 0);
    }

    private static void constants() {
        Set<String> seen = new TreeSet<>();
        for (Field f : RavenSupper.class.getDeclaredFields()) {
            if (!isHidden(f)) {
                seen.add(Modifier.toString(f.getModifiers()) + " " + f.getType() + " " + f.getName());
            }
        }
        same("constants", seen, Set.of("public static final int NONE", "public static final int BAD",
            "public static final int NO", "public static final int FULL"));
    }

    private static void methods() {
        Set<String> seen = new TreeSet<>();
        for (Method m : RavenSupper.class.getDeclaredMethods()) {
            if (!isHidden(m)) {
                List<String> types = new ArrayList<>();
                for (Class<?> type : m.getParameterTypes()) {
                    types.add(type.getName());
                }
                seen.add(m.getReturnType() + " " + m.getName() + "(" + String.join(",", types) + ")");
                check.due(m.getName() + " is public and no more", m.getModifiers(), Modifier.PUBLIC);
            }
        }
        same("methods", seen, new TreeSet<>(Arrays.asList(FACE)));
    }

    private static boolean isHidden(Member member) {
        return Modifier.isPrivate(member.getModifiers()) || member.isSynthetic();
    }

    private static void namesInside() {
        Set<String> face = new TreeSet<>();
        for (Method m : RavenSupper.class.getMethods()) {
            face.add(m.getName());
        }
        for (Method m : RavenSupper.class.getDeclaredMethods()) {
            boolean hidden = Modifier.isPrivate(m.getModifiers());
            check.due(m.getName() + " is private and bears a public name", hidden && face.contains(m.getName()) ? 1 : 0, 0);
        }
        int classes = 1;
        for (Class<?> inside : RavenSupper.class.getDeclaredClasses()) {
            classes++;
            check.due(inside + " is static", Modifier.isStatic(inside.getModifiers()) ? 1 : 0, 1);
            check.due(inside + " is not public", Modifier.isPublic(inside.getModifiers()) ? 1 : 0, 0);
            check.due(inside + " has fields", inside.getDeclaredFields().length <= 20 ? 1 : 0, 1);
            for (Method m : inside.getDeclaredMethods()) {
                check.due(inside + "." + m.getName() + " bears a public name", face.contains(m.getName()) ? 1 : 0, 0);
                check.due(m.getName() + "'s parameters", m.getParameterCount() <= 7 ? 1 : 0, 1);
            }
        }
        check.due("some twelve classes", classes <= 12 ? 1 : 0, 1);
    }

    private static void source() throws Exception {
        String source = Files.readString(Path.of("src/main/java/RavenSupper.java"));
        String code = source.replaceAll("(?s)/\\*.*?\\*/", "").replaceAll("//[^\n]*", "");
        for (String pattern : NOT_IN_IT) {
            Matcher m = Pattern.compile(pattern).matcher(code);
            check.due("in the source: " + pattern, m.find() ? 1 : 0, 0);
        }
        check.due("signs above 127", source.chars().filter(c -> c > 127).count(), 0);
    }

    /** No call makes an object: what is made stands in a field, but for the evenings of one constructor. */
    private static void rowsOfConstructors() throws Exception {
        List<String> elsewhere = new ArrayList<>();
        for (String line : Files.readAllLines(Path.of("src/main/java/RavenSupper.java"))) {
            if (line.matches(".*\\bnew \\w+[(\\[].*") && !line.matches("\\s*private final .* = .*")) {
                elsewhere.add(line.trim());
            }
        }
        check.due("made elsewhere: " + elsewhere, elsewhere.equals(List.of("past[i] = new Evening();")) ? 1 : 0, 1);
    }

    private static void same(String what, Set<String> got, Set<String> due) {
        for (String each : due) {
            check.due(what + ": " + each, got.contains(each) ? 1 : 0, 1);
        }
        check.due(what + " in all", got.size(), due.size());
    }
}
