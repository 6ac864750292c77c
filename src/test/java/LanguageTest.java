import java.io.IOException;
import java.lang.reflect.Constructor;
import java.lang.reflect.Field;
import java.lang.reflect.Method;
import java.lang.reflect.Modifier;
import java.nio.file.Files;
import java.nio.file.Path;
import java.util.List;
import java.util.Set;
import java.util.TreeSet;
import java.util.regex.Matcher;
import java.util.regex.Pattern;

/** The face of the document, and those rules of ../shared/LANGUAGE.md that can be read from the file. */
public final class LanguageTest {
    private static final Path SOURCE = Path.of("src/main/java/LotFences.java");
    private static final String[] FORBIDDEN = {"\\bthrow\\b", "\\btry\\b", "\\bcatch\\b", "\\bsynchronized\\b", "\\bassert\\b",
        "->", "::", "\\bdouble\\b", "\\bfloat\\b", "\\bpackage\\b", "static\\s*\\{", "\\w+Exact\\b", "\\bSystem\\.(?!arraycopy)",
        "\\bThread\\b", "\\bRandom\\b", "\"", "\\bhashCode\\b", "\\btoString\\b", "\\bequals\\b", "\\bprotected\\b"};

    public static void main(String[] args) throws IOException {
        String source = Files.readString(SOURCE);
        String code = source.replaceAll("(?s)/\\*.*?\\*/", " ").replaceAll("//[^\n]*", " ");
        face();
        privateNames();
        words(code);
        methods(code);
        sizes();
        Due.end();
    }

    private static void dueSet(String what, Set<String> got, Set<String> want) {
        Due.due(what + " are as due", got.equals(want) ? 1 : 0, 1);
        if (!got.equals(want)) {
            System.out.println(what + ": " + got + ", due: " + want);
        }
    }

    private static void face() {
        Class<?> c = LotFences.class;
        Due.due("the class is public and final", c.getModifiers(), Modifier.PUBLIC | Modifier.FINAL);
        Set<String> methods = new TreeSet<>();
        for (Method method : c.getDeclaredMethods()) {
            if (!Modifier.isPrivate(method.getModifiers())) {
                methods.add(signature(method));
            }
        }
        dueSet("methods", methods, new TreeSet<>(List.of("int set(int, int)", "int product(int, int, int, int, int)",
            "int family(int, int)", "int forecast(int, int, int)", "int actual(int, int)", "int lots(int, int, int)",
            "int plan()", "int weeks(int)", "int ofProduct(int, int)", "int at(int, int, int)", "long projection(int, int)",
            "int ofWeek(int, int)", "long count(int)", "int firstShort(int)", "int lasts(int)", "int leastHours()",
            "long costs(int, int)", "int bestFence(int)", "int roomFor(int, int)", "int put(long)", "int wipe()", "int fault()",
            "int carryOut()", "int undo()", "int save(int)", "int restore(int)")));
        Set<String> fields = new TreeSet<>();
        for (Field field : c.getDeclaredFields()) {
            if (!Modifier.isPrivate(field.getModifiers())) {
                fields.add(field.getType() + " " + field.getName() + " " + Modifier.toString(field.getModifiers()));
            }
        }
        Set<String> constants = new TreeSet<>();
        for (String name : List.of("NO_SUCH", "BAD_VALUE", "BAD_TEXT", "TOO_MANY", "NOT_POSSIBLE", "NONE", "HOURS",
            "OVERTIME", "FENCE", "LOOK", "FACTOR", "SETUP", "HOLD", "LATE", "OVER")) {
            constants.add("int " + name + " public static final");
        }
        dueSet("constants", fields, constants);
        Constructor<?>[] constructors = c.getDeclaredConstructors();
        Due.due("constructors", constructors.length, 1);
        Due.due("its parameters", constructors[0].getParameterCount(), 0);
        Due.due("it is public", constructors[0].getModifiers(), Modifier.PUBLIC);
    }

    private static String signature(Method method) {
        StringBuilder parameters = new StringBuilder();
        for (Class<?> type : method.getParameterTypes()) {
            parameters.append(parameters.length() == 0 ? "" : ", ").append(type);
        }
        return method.getReturnType() + " " + method.getName() + "(" + parameters + ")";
    }

    private static void privateNames() {
        Set<String> open = new TreeSet<>();
        for (Method method : LotFences.class.getDeclaredMethods()) {
            if (Modifier.isPublic(method.getModifiers())) {
                open.add(method.getName());
            }
        }
        for (Method method : LotFences.class.getDeclaredMethods()) {
            if (Modifier.isPrivate(method.getModifiers()) && open.contains(method.getName())) {
                Due.wrong("a private method bears the public name " + method.getName());
            }
        }
        for (Class<?> inside : LotFences.class.getDeclaredClasses()) {
            Due.due(inside + " is static", Modifier.isStatic(inside.getModifiers()) ? 1 : 0, 1);
            Due.due(inside + " is not open", inside.getModifiers() & (Modifier.PUBLIC | Modifier.PROTECTED), 0);
            for (Method method : inside.getDeclaredMethods()) {
                if (open.contains(method.getName())) {
                    Due.wrong("a method of " + inside + " bears the public name " + method.getName());
                }
            }
        }
    }

    private static void words(String code) {
        for (String forbidden : FORBIDDEN) {
            Matcher found = Pattern.compile(forbidden).matcher(code);
            Due.due(forbidden + " stands in the file", found.find() ? 1 : 0, 0);
        }
        Matcher imports = Pattern.compile("import ([\\w.]+);").matcher(code);
        while (imports.find()) {
            Due.due("import of " + imports.group(1), imports.group(1).equals("java.util.Arrays") ? 0 : 1, 0);
        }
        for (char sign : code.toCharArray()) {
            if (sign > 126) {
                Due.wrong("the sign " + (int) sign + " stands in the file");
            }
        }
    }

    /** A method's head stands on lines of its own, and its body ends with a brace below the head's first sign. */
    private static void methods(String code) {
        String[] lines = code.split("\n", -1);
        Pattern head = Pattern.compile("^( +)(?:public |private |static |final )*(?:[\\w\\[\\]]+ )?(\\w+)\\(([^()]*)\\) \\{$");
        int methods = 0;
        for (int from = 0; from < lines.length; from++) {
            Matcher found = head.matcher(lines[from]);
            if (!found.find() || found.group(2).equals("if") || found.group(2).equals("for")) {
                continue;
            }
            methods++;
            int to = from;
            while (to < lines.length - 1 && !lines[to].equals(found.group(1) + "}")) {
                to++;
            }
            Due.due(found.group(2) + " has more than 60 lines", to - from >= 60 ? 1 : 0, 0);
            Due.due(found.group(2) + " has more than 7 parameters", found.group(3).split(",").length > 7 ? 1 : 0, 0);
        }
        Due.due("methods were found", methods > 60 ? 1 : 0, 1);
    }

    private static void sizes() {
        Due.due("more than 12 classes", LotFences.class.getDeclaredClasses().length > 11 ? 1 : 0, 0);
        for (Class<?> inside : LotFences.class.getDeclaredClasses()) {
            int fields = 0;
            for (Field field : inside.getDeclaredFields()) {
                fields += Modifier.isStatic(field.getModifiers()) ? 0 : 1;
            }
            Due.due(inside + " has more than 20 fields", fields > 20 ? 1 : 0, 0);
        }
    }
}
