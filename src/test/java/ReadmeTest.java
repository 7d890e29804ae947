import java.io.IOException;
import java.lang.reflect.Method;
import java.nio.file.Files;
import java.nio.file.Path;
import java.util.Set;
import java.util.TreeSet;
import java.util.regex.Matcher;
import java.util.regex.Pattern;

/** What README.md tells of the class's use is so: each call of its example answers what stands behind it. */
public final class ReadmeTest {
    private static final Pattern CALL = Pattern.compile("house\\.(\\w+\\([^)]*\\)); +// (true|false|-?\\d+)(: .*)?");

    private ReadmeTest() {
    }

    public static void main(String[] args) throws IOException {
        String readme = Files.readString(Path.of("README.md"));
        checkExample(readme.substring(readme.indexOf("```java") + 7, readme.lastIndexOf("```")));
        checkNames(readme);
        Check.same("README.md tells how the tests are run", readme.contains("\n    .ci/run\n"), true);
        Check.finish("ReadmeTest");
    }

    private static void checkExample(String example) {
        DunningHouse house = new DunningHouse();
        int calls = 0;
        for (String line : example.split("\n")) {
            Matcher call = CALL.matcher(line);
            if (call.matches()) {
                calls++;
                Check.same("README.md: " + line + "\nit", new Call(call.group(1)).on(house), call.group(2));
            } else {
                boolean isMade = line.equals("DunningHouse house = new DunningHouse();");
                Check.same("README.md, a line that can't be read: " + line, line.isEmpty() || isMade, true);
            }
        }
        Check.same("README.md has no calls", calls == 0, false);
    }

    /** Each call of the face is named. */
    private static void checkNames(String readme) {
        Set<String> missing = new TreeSet<>();
        for (Method m : DunningHouse.class.getMethods()) {
            if (m.getDeclaringClass() == DunningHouse.class && !readme.contains("`" + m.getName())) {
                missing.add(m.getName());
            }
        }
        Check.same("calls that README.md does not name", missing.toString(), "[]");
    }
}
