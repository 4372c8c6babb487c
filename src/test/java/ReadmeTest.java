import java.lang.reflect.Method;
import java.nio.file.Files;
import java.nio.file.Path;
import java.util.List;
import java.util.TreeSet;
import java.util.regex.Matcher;
import java.util.regex.Pattern;
import java.util.stream.Stream;

/** README.md: each line of its run answers what stands behind it, and its list of tests is what .ci/run runs. */
public final class ReadmeTest {
    private static final Pattern CALL = Pattern.compile("ferry\\.(\\w+)\\((.*)\\); +// (-?\\d+|[A-Z]+)(: .*)?");
    private static final String NEW = "RopeFerry ferry = new RopeFerry();";

    public static void main(String[] args) throws Exception {
        Path root = Path.of(args.length > 0 ? args[0] : ".");
        List<String> lines = Files.readAllLines(root.resolve("README.md"));
        theRun(lines);
        theTests(lines, root);
        Due.end();
    }

    private static void theRun(List<String> lines) throws Exception {
        RopeFerry ferry = null;
        boolean inJava = false;
        int calls = 0;
        for (String line : lines) {
            if (line.startsWith("```")) {
                inJava = line.equals("```java");
            } else if (inJava && line.equals(NEW)) {
                ferry = new RopeFerry();
            } else if (inJava) {
                calls++;
                answers(ferry, line);
            }
        }
        Due.holds("README.md has a run", calls > 0);
    }

    private static void answers(RopeFerry ferry, String line) throws Exception {
        Matcher told = CALL.matcher(line);
        if (ferry == null || !told.matches()) {
            Due.holds("a line that can be tried: " + line, false);
            return;
        }
        String[] words = told.group(2).isEmpty() ? new String[0] : told.group(2).split(", ");
        Class<?>[] types = new Class<?>[words.length];
        Object[] values = new Object[words.length];
        for (int i = 0; i < words.length; i++) {
            types[i] = int.class;
            values[i] = number(words[i].replace("RopeFerry.", ""));
        }
        Method call = RopeFerry.class.getMethod(told.group(1), types);
        Due.be(line, (Integer) call.invoke(ferry, values), number(told.group(3)));
    }

    private static int number(String word) throws Exception {
        boolean isName = Character.isUpperCase(word.charAt(0));
        return isName ? RopeFerry.class.getField(word).getInt(null) : Integer.decode(word);
    }

    private static void theTests(List<String> lines, Path root) throws Exception {
        TreeSet<String> told = new TreeSet<>();
        for (String line : lines) {
            if (line.matches("\\| \\w+Test \\|.*")) {
                told.add(line.split(" ")[1] + ".java");
            }
        }
        TreeSet<String> there = new TreeSet<>();
        try (Stream<Path> files = Files.list(root.resolve("src/test/java"))) {
            files.map(file -> file.getFileName().toString()).filter(name -> name.endsWith("Test.java")).forEach(there::add);
        }
        Due.holds("tests that README.md names: " + told + ", tests that are there: " + there, told.equals(there));
        Due.holds("README.md says how they are run", lines.contains("sh .ci/run"));
        Due.holds(".ci/run can be run", Files.isExecutable(root.resolve(".ci/run")));
    }
}
