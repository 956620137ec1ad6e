import java.lang.reflect.Constructor;
import java.lang.reflect.Field;
import java.lang.reflect.Method;
import java.lang.reflect.Modifier;
import java.nio.file.Files;
import java.nio.file.Path;
import java.util.Arrays;
import java.util.HashSet;
import java.util.Set;
import java.util.TreeSet;
import java.util.regex.Matcher;
import java.util.regex.Pattern;

/** The public face, and the rules of LANGUAGE.md that can be seen without reading the code. */
final class FaceTest {
    private static final Set<String> METHODS = new TreeSet<>(Arrays.asList(
            "void format()", "int put(int,int)", "int remove(int)", "int get(int)", "boolean contains(int)",
            "int was(int)", "int size()", "int rank(int)", "int key(int)", "int sum(int,int)", "int commit()",
            "void arm(int,int)", "int recover()", "boolean decay(int,int,int)", "int word(int,int)",
            "int block(int)", "int count(int)"));

    public static void main(String[] args) throws Exception {
        Check check = new Check("FaceTest");
        constants(check);
        members(check);
        nestedClasses(check);
        source(check);
        check.end();
    }

    private static void constants(Check check) throws Exception {
        String[] names = {"DONE", "ABSENT", "NOROOM", "DOWN", "NOTHING"};
        for (int i = 0; i < names.length; i++) {
            check.due(names[i], TwinRoots.class.getField(names[i]).getInt(null), i);
        }
        check.due("public fields", TwinRoots.class.getFields().length, names.length);
    }

    private static void members(Check check) {
        check.due("public and final", TwinRoots.class.getModifiers(), Modifier.PUBLIC | Modifier.FINAL);
        Set<String> seen = new TreeSet<>();
        for (Method m : TwinRoots.class.getDeclaredMethods()) {
            if (Modifier.isPrivate(m.getModifiers())) {
                check.due(m.getName() + " is no name of the face", openNames().contains(m.getName()), false);
            } else {
                check.due(m.getName() + " is public alone", m.getModifiers(), Modifier.PUBLIC);
                String types = Arrays.toString(m.getParameterTypes()).replaceAll("[\\[\\] ]", "");
                seen.add(m.getReturnType() + " " + m.getName() + "(" + types + ")");
            }
        }
        if (!seen.equals(METHODS)) {
            check.fail("the methods are " + seen);
        }
        Constructor<?>[] made = TwinRoots.class.getDeclaredConstructors();
        check.due("constructors", made.length, 1);
        Class<?>[] given = {int.class, int.class};
        check.due("constructor", Arrays.equals(made[0].getParameterTypes(), given), true);
        for (Field f : TwinRoots.class.getDeclaredFields()) {
            boolean ownOrFinal = Modifier.isPrivate(f.getModifiers())
                    || Modifier.isPublic(f.getModifiers()) && Modifier.isFinal(f.getModifiers());
            check.due("field " + f.getName(), ownOrFinal, true);
        }
    }

    private static Set<String> openNames() {
        Set<String> open = new HashSet<>();
        for (String m : METHODS) {
            open.add(m.substring(m.indexOf(' ') + 1, m.indexOf('(')));
        }
        return open;
    }

    private static void nestedClasses(Check check) {
        Set<String> open = openNames();
        Class<?>[] nested = TwinRoots.class.getDeclaredClasses();
        check.due("at most twelve classes", nested.length < 12, true);
        for (Class<?> c : nested) {
            check.due(c.getName() + " is static", Modifier.isStatic(c.getModifiers()), true);
            check.due(c.getName() + " is not public", Modifier.isPublic(c.getModifiers()), false);
            check.due(c.getName() + " has few fields", c.getDeclaredFields().length <= 20, true);
            for (Method m : c.getDeclaredMethods()) {
                check.due(m.getName() + " is no name of the face", open.contains(m.getName()), false);
                check.due(m.getName() + " takes seven at most", m.getParameterCount() <= 7, true);
            }
        }
    }

    private static void source(Check check) throws Exception {
        String code = Files.readString(Path.of("src/main/java/TwinRoots.java"))
                .replaceAll("(?s)/\\*.*?\\*/", " ").replaceAll("//[^\n]*", " ");
        String[] ruledOut = {"\\bthrows?\\b", "\\btry\\b", "\\bcatch\\b", "\\bfinally\\b", "\\bsynchronized\\b",
            "\\bassert\\b", "\\bpackage\\b", "\\bimport\\b", "\\bprotected\\b", "->", "::", "Exact\\b", "\"",
            "\\bSystem\\.(?!arraycopy)", "\\bThread\\b", "\\bRandom\\b", "\\bstatic\\s*\\{",
            "\\bstatic (?!final)\\w+ \\w+ *[=;]", "\\bwhile *\\( *true", "\\bfor *\\( *;",
            "\\bnew \\w+\\[[^\\]]*\\]\\["};
        for (String pattern : ruledOut) {
            Matcher found = Pattern.compile(pattern).matcher(code);
            check.due("no " + pattern, found.find(), false);
        }
    }
}
