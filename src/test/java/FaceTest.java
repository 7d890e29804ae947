import java.io.IOException;
import java.lang.reflect.Constructor;
import java.lang.reflect.Field;
import java.lang.reflect.Method;
import java.lang.reflect.Modifier;
import java.nio.file.Files;
import java.nio.file.Path;
import java.util.Arrays;
import java.util.List;
import java.util.Set;
import java.util.TreeSet;
import java.util.regex.Matcher;
import java.util.regex.Pattern;

/** The document's public face, and the rules of LANGUAGE.md that can be seen from outside or in the source. */
public final class FaceTest {
    private static final List<String> FACE = List.of(
        "int feed(int,int,int,int,int)", "boolean end(int)", "int text()", "int fault()", "int now(int)",
        "int step(int,int)", "int debtor(int,int)", "int invoice(int,int)", "int promised(int,int)",
        "int planned(int,int)", "int order(int,int)", "int aged(int,int)", "int next(int)", "int would(int,int)",
        "int bill(int,int,int)", "int pay(int,int)", "boolean dispute(int)", "int settle(int,int)",
        "int promise(int,int,int)", "int plan(int,int,int)", "int asks(int,int)", "int ships(int)",
        "boolean cancel(int)", "int pass(int)", "int undo()");
    private static final List<String> FORBIDDEN = List.of(
        "->", "::", "Exact(", "finally", "synchronized", "assert ", "catch", "@", "protected ", "package ",
        "Object", "System.out", "System.nano", "System.current", "Thread", "Random", "volatile", "transient");

    private FaceTest() {
    }

    public static void main(String[] args) throws IOException {
        checkFace();
        checkNested();
        checkSource(Files.readString(Path.of("src/main/java/DunningHouse.java")));
        Check.finish("FaceTest");
    }

    private static void checkFace() {
        Class<?> type = DunningHouse.class;
        Check.same("modifiers of the class", type.getModifiers(), Modifier.PUBLIC | Modifier.FINAL);
        Set<String> open = new TreeSet<>();
        for (Method m : type.getDeclaredMethods()) {
            if (!Modifier.isPrivate(m.getModifiers()) && !m.isSynthetic()) {
                Check.same(m + " is public", Modifier.isPublic(m.getModifiers()), true);
                StringBuilder text = new StringBuilder(m.getReturnType() + " " + m.getName() + "(");
                for (Class<?> p : m.getParameterTypes()) {
                    text.append(text.charAt(text.length() - 1) == '(' ? "" : ",").append(p);
                }
                open.add(text + ")");
                String thrown = m.getName().equals("debtor") ? "[class java.util.NoSuchElementException]" : "[]";
                Check.same(m.getName() + " throws", Arrays.toString(m.getExceptionTypes()), thrown);
            }
        }
        Check.same("the open methods", open.toString(), new TreeSet<>(FACE).toString());
        for (Field f : type.getDeclaredFields()) {
            boolean isNone = f.getName().equals("NONE");
            Check.same(f + " is private", Modifier.isPrivate(f.getModifiers()), !isNone);
            if (isNone) {
                Check.same("modifiers of NONE", f.getModifiers(), Modifier.PUBLIC | Modifier.STATIC | Modifier.FINAL);
                Check.same("type of NONE", f.getType().getName(), "int");
            }
        }
        Check.same("constructors", type.getDeclaredConstructors().length, 1);
        for (Constructor<?> c : type.getDeclaredConstructors()) {
            Check.same(c + " is public", Modifier.isPublic(c.getModifiers()), true);
            Check.same("parameters of " + c, c.getParameterCount(), 0);
        }
    }

    private static void checkNested() {
        Set<String> names = new TreeSet<>();
        FACE.forEach(f -> names.add(f.substring(f.indexOf(' ') + 1, f.indexOf('('))));
        Class<?>[] nested = DunningHouse.class.getDeclaredClasses();
        Check.same("more than eleven classes inside", nested.length > 11, false);
        for (Class<?> c : nested) {
            Check.same(c + " is static", Modifier.isStatic(c.getModifiers()), true);
            for (Method m : c.getDeclaredMethods()) {
                Check.same(m + " has a name of the face", names.contains(m.getName()), false);
                Check.same(m + " has over seven parameters", m.getParameterCount() > 7, false);
            }
        }
        for (Class<?> c : nested) {
            checkStatics(c);
        }
        checkStatics(DunningHouse.class);
    }

    private static void checkStatics(Class<?> c) {
        long own = Arrays.stream(c.getDeclaredFields()).filter(f -> !Modifier.isStatic(f.getModifiers())).count();
        Check.same(c + " has over twenty fields", own > 20, false);
        for (Field f : c.getDeclaredFields()) {
            if (Modifier.isStatic(f.getModifiers())) {
                Check.same(f + " is final", Modifier.isFinal(f.getModifiers()), true);
            }
        }
    }

    private static void checkSource(String source) {
        String code = source.replaceAll("/\\*(?s:.*?)\\*/", "").replaceAll("//.*", "").replaceAll("\"[^\"]*\"", "\"\"");
        for (String word : FORBIDDEN) {
            Check.same("the source has " + word, code.contains(word), false);
        }
        Matcher imports = Pattern.compile("import ([^;]*);").matcher(code);
        while (imports.find()) {
            Check.same("import", imports.group(1), "java.util.NoSuchElementException");
        }
        checkMethodsAreShort(code);
        Matcher longLine = Pattern.compile("(?m)^.{121,}$").matcher(source);
        Check.same("a line of over 120 signs", longLine.find(), false);
        Check.same("signs beyond 127", source.chars().anyMatch(c -> c > 127), false);
    }

    /** A method begins and ends at the same indent: four blanks, or eight in a class inside. */
    private static void checkMethodsAreShort(String code) {
        String[] lines = code.split("\n");
        int from = -1;
        for (int i = 0; i < lines.length; i++) {
            if (lines[i].matches("( {4}| {8})(?!if|for|while|switch)[a-zA-Z].*\\) (throws \\w+ )?\\{")) {
                from = i;
            } else if (from >= 0 && lines[i].equals(lines[from].replaceAll("\\S.*", "") + "}")) {
                Check.same("over sixty lines: " + lines[from].trim(), i - from + 1 > 60, false);
                from = -1;
            }
        }
        Check.same("a method whose end was not found", from >= 0, false);
    }
}
