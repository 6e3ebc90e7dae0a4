import java.io.File;
import java.io.IOException;
import java.lang.reflect.Method;
import java.lang.reflect.Modifier;
import java.nio.file.Files;
import java.nio.file.Path;
import java.util.ArrayList;
import java.util.Arrays;
import java.util.List;
import java.util.regex.Matcher;
import java.util.regex.Pattern;

/** README.md shows the answers that the class gives, and leaves out no method and no file of the tests. */
public final class ReadmeTest {
    private static final Checks CHECKS = new Checks();
    private static final Pattern SHOWN = Pattern.compile("(x\\..*\\));\\s*// ([-\\w]+): .*");

    /** The calls of the example and their answers, as the class gives them. */
    private static final List<String> RUN = new ArrayList<>();

    public static void main(String[] args) throws IOException {
        List<String> lines = Files.readAllLines(Path.of("README.md"));
        runExample();
        CHECKS.due("the example of README.md", shownIn(lines), RUN);
        String text = String.join("\n", lines);
        for (Method method : LineCodes.class.getDeclaredMethods()) {
            if (Modifier.isPublic(method.getModifiers())) {
                CHECKS.due(method.getName() + " in README.md", text.contains("\n| `" + method.getName() + "("), true);
            }
        }
        File[] tests = new File("src/test/java").listFiles();
        CHECKS.due("there are tests", tests != null && tests.length > 0, true);
        for (File test : tests) {
            String name = test.getName().replace(".java", "");
            CHECKS.due(name + " in README.md", text.contains("`" + name + "`"), true);
        }
        for (String name : namedTests(text)) {
            CHECKS.due(name + " is there", new File("src/test/java/" + name + ".java").exists(), true);
        }
        CHECKS.end();
    }

    private static void runExample() {
        LineCodes x = new LineCodes();
        ran("x.write(4, 0x32314241L)", x.write(4, 0x32314241L));
        ran("x.pack()", x.pack());
        ran("x.symbol(0)", x.symbol(0));
        ran("x.bars(2)", x.bars(2));
        ran("x.width(0)", x.width(0));
        ran("x.spoil(0, 5)", x.spoil(0, 5));
        ran("x.turn()", x.turn());
        ran("x.read()", x.read());
        ran("x.sign(0)", x.sign(0));
        ran("x.backwards()", x.backwards());
        ran("x.checkFigure(400638133393L)", x.checkFigure(400638133393L));
        ran("x.thirteen(400638133393L, 1)", x.thirteen(400638133393L, 1));
        ran("x.read()", x.read());
        ran("x.sign(12)", x.sign(12));
        ran("x.clear()", x.clear());
        ran("x.put(3, 0x010203L)", x.put(3, 0x010203L));
        CHECKS.due("the widths put", Arrays.asList(x.width(0), x.width(1), x.width(2)), Arrays.asList(3, 2, 1));
        ran("x.read()", x.read());
        ran("x.wipe()", x.wipe());
    }

    private static void ran(String call, Object answer) {
        RUN.add(call + " " + answer);
    }

    private static List<String> shownIn(List<String> lines) {
        List<String> shown = new ArrayList<>();
        for (String line : lines) {
            Matcher matcher = SHOWN.matcher(line);
            if (matcher.matches()) {
                shown.add(matcher.group(1) + " " + matcher.group(2));
            }
        }
        return shown;
    }

    private static List<String> namedTests(String text) {
        List<String> names = new ArrayList<>();
        Matcher matcher = Pattern.compile("`(\\w+Test)`").matcher(text);
        while (matcher.find()) {
            names.add(matcher.group(1));
        }
        return names;
    }
}
