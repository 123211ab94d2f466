import java.io.IOException;
import java.lang.reflect.Method;
import java.lang.reflect.Modifier;
import java.nio.file.Files;
import java.nio.file.Path;
import java.util.Set;
import java.util.TreeSet;
import java.util.regex.Matcher;
import java.util.regex.Pattern;
import java.util.stream.Stream;

/** README.md says nothing that does not hold: its example is run, its calls and tests are those there are. */
public final class ReadmeTest {
    private static final Pattern CALL = Pattern.compile("x\\.(\\w+)\\(([^)]*)\\); +// (-?\\d+)(:.*)?");

    private static int checked = 0;
    private static int wrong = 0;

    public static void main(String[] args) throws Exception {
        String readme = Files.readString(Path.of("README.md"));
        example(readme);
        calls(readme);
        constants(readme);
        tests(readme);
        System.out.println("ReadmeTest: " + checked + " answers, " + wrong + " wrong");
        if (wrong > 0) {
            System.exit(1);
        }
    }

    private static void need(boolean good, String what) {
        checked++;
        if (!good) {
            wrong++;
            System.out.println("README.md: " + what);
        }
    }

    private static void example(String readme) throws Exception {
        String[] lines = readme.split("```java\n")[1].split("```")[0].split("\n");
        need(lines[0].equals("StagePair x = new StagePair();"), "the example begins so: " + lines[0]);
        StagePair x = new StagePair();
        for (int i = 1; i < lines.length; i++) {
            Matcher m = CALL.matcher(lines[i]);
            if (m.matches()) {
                long got = answer(x, m.group(1), m.group(2));
                need(got == Long.parseLong(m.group(3)), lines[i] + " (answered " + got + ")");
            } else {
                need(lines[i].isBlank(), "no call: " + lines[i]);
            }
        }
    }

    private static long answer(StagePair x, String name, String list) throws Exception {
        String[] texts = list.isEmpty() ? new String[0] : list.split(", *");
        Object[] values = new Object[texts.length];
        Class<?>[] types = new Class<?>[texts.length];
        for (int i = 0; i < texts.length; i++) {
            values[i] = Long.decode(texts[i]).intValue();
            types[i] = int.class;
        }
        return ((Number) StagePair.class.getMethod(name, types).invoke(x, values)).longValue();
    }

    /** The table has each call once, with * if the document says that it reads the tape. */
    private static void calls(String readme) throws IOException {
        Set<String> due = new TreeSet<>();
        for (Method m : StagePair.class.getDeclaredMethods()) {
            if (Modifier.isPublic(m.getModifiers())) {
                due.add(m.getName() + (readsTape(m.getName()) ? "*" : ""));
            }
        }
        Set<String> got = new TreeSet<>();
        Matcher rows = Pattern.compile("(?m)^\\| [^|]* \\| (`.*`\\*?) \\|$").matcher(readme);
        while (rows.find()) {
            for (String call : rows.group(1).split(" ")) {
                need(got.add(call.replace("`", "")), "twice: " + call);
            }
        }
        need(got.equals(due), "the calls are " + due + ", told are " + got);
    }

    private static boolean readsTape(String name) throws IOException {
        String document = Files.readString(Path.of("../shared/DOC.md"));
        String promise = document.split("## Promise \\d+: " + name + "\n")[1].split("##")[0];
        return promise.contains("(read, and empty then") || promise.contains("; read, and empty then)");
    }

    private static void constants(String readme) {
        need(readme.contains("`NONE` " + StagePair.NONE + " "), "NONE");
        need(readme.contains("`RANGE` " + StagePair.RANGE + " "), "RANGE");
        need(readme.contains("`FULL` " + StagePair.FULL + " "), "FULL");
        need(readme.contains("`STATE` " + StagePair.STATE + " "), "STATE");
    }

    private static void tests(String readme) throws IOException {
        Set<String> due = new TreeSet<>();
        try (Stream<Path> files = Files.list(Path.of("src/test/java"))) {
            files.map(f -> f.getFileName().toString()).filter(f -> f.endsWith("Test.java"))
                .forEach(f -> due.add(f.replace(".java", "")));
        }
        Set<String> got = new TreeSet<>();
        Matcher m = Pattern.compile("`(\\w+Test)`").matcher(readme);
        while (m.find()) {
            got.add(m.group(1));
        }
        need(got.equals(due), "the tests are " + due + ", told are " + got);
        need(Files.isExecutable(Path.of(".ci/run")) && readme.contains("bash .ci/run"), ".ci/run");
    }
}
