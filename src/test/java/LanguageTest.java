import java.io.IOException;
import java.lang.reflect.Constructor;
import java.lang.reflect.Field;
import java.lang.reflect.Method;
import java.lang.reflect.Modifier;
import java.nio.file.Files;
import java.nio.file.Path;
import java.util.ArrayList;
import java.util.HashSet;
import java.util.List;
import java.util.Set;

/** What of ../shared/LANGUAGE.md can be told by looking: the face, and words and signs that may not stand there. */
public final class LanguageTest {
    private static final Check check = new Check();
    private static final String[] FACE = {
        "int row(int,int,int)", "int set(int,int,long)", "int copy(int,int,int,int,int)", "long element(int,int)",
        "int holds(int)", "int show(int,int)", "int says(int,int)", "int colours(int)", "int gate(int,int)", "int cart(int)",
        "int place(int,int)", "int paint(int,int)", "int tell(int,int,int)", "int share(int,int)", "int feed(int)",
        "int wipe()", "int yard()", "int gateOf(int,int)", "int cartOf(int,int)", "int opens(int)", "int ready()",
        "int tries(int)", "int judge(int,int)", "int morning(int,int)", "int behind(int,int,int)", "int stuck(int,int)",
        "int out(int)", "int way(int)", "int foe()", "int harm(int,int)", "int sets(int,int)", "int know(int)",
        "int lock(int)", "int key(int,int)", "int makes(int,int,int,int)", "int stream(int,int,int,int)",
        "int scratched(int,int,int,int)", "int drive(int)", "int home()", "int seed(int)", "int image()", "int back()",
        "int status(int)"};
    private static final String[] NOT_THERE = {
        "\\bthrow\\b", "\\bthrows\\b", "\\btry\\b", "\\bcatch\\b", "\\bsynchronized\\b", "\\bassert\\b", "->", "::",
        "\\bimport\\b", "\\bpackage\\b", "\\bprotected\\b", "\\bSystem\\.(?!arraycopy)", "\\bstatic \\{", "\\bstatic (?!final\\b)int\\[",
        "\\bdo \\{", "while \\(true\\)", "for \\(;;"};

    public static void main(String[] args) throws IOException {
        face();
        insides(RefusedLast.class);
        text();
        check.end();
    }

    private static void face() {
        Set<String> due = new HashSet<>(List.of(FACE));
        Set<String> publicNames = new HashSet<>();
        List<Method> others = new ArrayList<>();
        int modifiers = RefusedLast.class.getModifiers();
        check.due("public and final", Modifier.isPublic(modifiers) && Modifier.isFinal(modifiers) ? 1 : 0, 1);
        for (Method m : RefusedLast.class.getDeclaredMethods()) {
            if (Modifier.isPrivate(m.getModifiers())) {
                others.add(m);
                continue;
            }
            StringBuilder form = new StringBuilder(m.getReturnType().getName() + " " + m.getName() + "(");
            for (Class<?> p : m.getParameterTypes()) {
                form.append(form.charAt(form.length() - 1) == '(' ? "" : ",").append(p.getName());
            }
            publicNames.add(m.getName());
            check.due("of the face: " + form + ")", due.remove(form.append(')').toString()) ? 1 : 0, 1);
        }
        check.due("missing " + due, due.size(), 0);
        for (Class<?> c : RefusedLast.class.getDeclaredClasses()) {
            others.addAll(List.of(c.getDeclaredMethods()));
            insides(c);
        }
        for (Method m : others) {
            check.due("name of a public method: " + m, publicNames.contains(m.getName()) ? 1 : 0, 0);
            check.due("parameters of " + m, m.getParameterCount() <= 7 ? 1 : 0, 1);
        }
        check.due("classes inside", RefusedLast.class.getDeclaredClasses().length <= 12 ? 1 : 0, 1);
        Constructor<?>[] made = RefusedLast.class.getDeclaredConstructors();
        check.due("constructors", made.length, 1);
        check.due("of no parameters", made[0].getParameterCount(), 0);
    }

    private static void insides(Class<?> c) {
        int fields = 0;
        for (Field f : c.getDeclaredFields()) {
            boolean isStatic = Modifier.isStatic(f.getModifiers());
            boolean isFace = f.getName().equals("NONE") && c == RefusedLast.class;
            check.due("private: " + f, Modifier.isPrivate(f.getModifiers()) || isFace ? 1 : 0, 1);
            check.due("final: " + f, !isStatic || Modifier.isFinal(f.getModifiers()) ? 1 : 0, 1);
            fields += isStatic ? 0 : 1;
        }
        check.due("fields of " + c, fields <= 20 ? 1 : 0, 1);
        check.due("static: " + c, c == RefusedLast.class || Modifier.isStatic(c.getModifiers()) ? 1 : 0, 1);
    }

    private static void text() throws IOException {
        String source = Files.readString(Path.of("src/main/java/RefusedLast.java"));
        String code = source.replaceAll("(?s)/\\*.*?\\*/", "").replaceAll("//[^\n]*", "");
        for (String sign : NOT_THERE) {
            check.due("stands there: " + sign, java.util.regex.Pattern.compile(sign).matcher(code).find() ? 1 : 0, 0);
        }
        int length = 0;
        for (String line : source.split("\n")) {
            length = line.equals("    }") || line.equals("        }") ? 0 : length + 1;
            check.due("a long method ends at: " + line, length <= 60 ? 1 : 0, 1);
        }
    }
}
