import java.io.IOException;
import java.lang.reflect.Constructor;
import java.lang.reflect.Field;
import java.lang.reflect.Method;
import java.lang.reflect.Modifier;
import java.nio.file.Files;
import java.nio.file.Path;
import java.util.ArrayList;
import java.util.List;
import java.util.TreeSet;
import java.util.regex.Matcher;
import java.util.regex.Pattern;

/** The public face as the document tells it, and those rules of LANGUAGE.md that can be looked at. */
final class FaceTest {
    private static final Path SOURCE = Path.of("src/main/java/KwicStore.java");
    private static final String[] FACE = {
        "int feed(int,int,int,int,int)", "boolean end(int)", "int fault(int)", "int text(int)", "int word()",
        "int rule(int)", "int line(int,int) NoSuchElementException", "int sign(int,int)", "int hit(int,int)",
        "int rank(int,int)", "int all(int,int)", "int twice(int)", "int unlike(int)", "int frequent(int,int)",
        "int few(int,int)", "int beside(boolean,int)", "int set(int)", "int put(int)", "int take(int)",
        "int swap(int,int)", "int lay(int,int)", "int page(int)", "int rewind(int)", "int cursor(int,int)",
        "int told(int,int,int)", "int split(int,int)", "int join(int)", "int ways(int,long)", "int status(int)",
        "int undo()", "int log(int,int)", "int spell(int,int)", "int would(int)", "int step(int,int,int)",
        "int run(int,int)", "int perform(int)", "int most(int)", "int image()", "int back()", "int count(int)",
    };
    /** Rules 2, 4, 6, 9 and 10: what no line of the file may have. */
    private static final String[] FORBIDDEN = {
        "->", "::", "\\bfinally\\b", "\\bsynchronized\\b", "\\bassert\\b", "\\btry\\b", "\\bcatch\\b", "\\bstatic \\{",
        "\\bSystem\\.(?!arraycopy)", "\\bRandom\\b", "\\bThread\\b", "Exact\\(", "\\bwhile \\(true\\)", "\\bfor \\(;;",
        "\\bpackage\\b", "\\bdouble\\b", "\\bfloat\\b", "\\bnull\\b",
    };
    private static final Check CHECK = new Check("FaceTest");

    public static void main(String[] args) throws IOException {
        methods();
        constants();
        constructors();
        classes();
        source();
        CHECK.finish();
    }

    private static String told(Method method) {
        List<String> types = new ArrayList<>();
        for (Class<?> type : method.getParameterTypes()) {
            types.add(type.getSimpleName());
        }
        StringBuilder told = new StringBuilder();
        told.append(method.getReturnType().getSimpleName()).append(' ').append(method.getName());
        told.append('(').append(String.join(",", types)).append(')');
        for (Class<?> thrown : method.getExceptionTypes()) {
            told.append(' ').append(thrown.getSimpleName());
        }
        return told.toString();
    }

    private static void methods() {
        TreeSet<String> want = new TreeSet<>(List.of(FACE));
        TreeSet<String> names = new TreeSet<>();
        for (Method method : KwicStore.class.getDeclaredMethods()) {
            if (!Modifier.isPrivate(method.getModifiers())) {
                CHECK.due("in the face: " + told(method), want.remove(told(method)), true);
                CHECK.due("of an object: " + told(method), method.getModifiers(), Modifier.PUBLIC);
                names.add(method.getName());
            }
        }
        CHECK.due("missing: " + want, want.size(), 0);
        List<Class<?>> all = new ArrayList<>(List.of(KwicStore.class.getDeclaredClasses()));
        all.add(KwicStore.class);
        for (Class<?> each : all) {
            for (Method method : each.getDeclaredMethods()) {
                boolean ownFace = each == KwicStore.class && Modifier.isPublic(method.getModifiers());
                CHECK.due("bears a public name: " + method, !ownFace && names.contains(method.getName()), false);
                CHECK.due("at most seven parameters: " + method, method.getParameterCount() <= 7, true);
            }
        }
    }

    private static void constants() {
        CHECK.due("NONE", KwicStore.NONE, -1);
        CHECK.due("HIDDEN", KwicStore.HIDDEN, -1000000);
        int open = 0;
        for (Field field : KwicStore.class.getDeclaredFields()) {
            open += Modifier.isPrivate(field.getModifiers()) ? 0 : 1;
            boolean changing = Modifier.isStatic(field.getModifiers()) && !Modifier.isFinal(field.getModifiers());
            CHECK.due("a static field that is not final: " + field, changing, false);
        }
        CHECK.due("fields that are not private", open, 2);
    }

    private static void constructors() {
        Constructor<?>[] made = KwicStore.class.getDeclaredConstructors();
        CHECK.due("constructors", made.length, 1);
        CHECK.due("it is public", made[0].getModifiers(), Modifier.PUBLIC);
        CHECK.due("without parameters", made[0].getParameterCount(), 0);
        CHECK.due("the class is public and final", KwicStore.class.getModifiers(), Modifier.PUBLIC | Modifier.FINAL);
    }

    private static void classes() {
        Class<?>[] inside = KwicStore.class.getDeclaredClasses();
        CHECK.due("at most twelve classes", inside.length < 12, true);
        for (Class<?> each : inside) {
            CHECK.due("static: " + each, Modifier.isStatic(each.getModifiers()), true);
            CHECK.due("not public: " + each, Modifier.isPublic(each.getModifiers()), false);
            int fields = 0;
            for (Field field : each.getDeclaredFields()) {
                fields += Modifier.isStatic(field.getModifiers()) ? 0 : 1;
            }
            CHECK.due("at most twenty fields: " + each, fields <= 20, true);
        }
    }

    private static void source() throws IOException {
        List<String> lines = Files.readAllLines(SOURCE);
        int opened = 0;
        for (int i = 0; i < lines.size(); i++) {
            String line = lines.get(i);
            String code = line.strip().startsWith("*") || line.strip().startsWith("/*") ? "" : line;
            for (String forbidden : FORBIDDEN) {
                Matcher matcher = Pattern.compile(forbidden).matcher(code);
                CHECK.due("line " + (i + 1) + " has " + forbidden, matcher.find(), false);
            }
            if (code.matches("( {4}| {8})[a-zA-Z].*\\) .*\\{") && !code.matches(" *(if|for|while|switch|do|else)\\b.*")) {
                opened = i;
            }
            if (code.matches("( {4}| {8})\\}")) {
                CHECK.due("at most sixty lines up to " + (i + 1), i - opened <= 60 || opened == 0, true);
            }
        }
    }
}
