import java.lang.reflect.Constructor;
import java.lang.reflect.Field;
import java.lang.reflect.Member;
import java.lang.reflect.Method;
import java.lang.reflect.Modifier;
import java.nio.file.Files;
import java.nio.file.Path;
import java.util.Arrays;
import java.util.Map;
import java.util.Set;
import java.util.TreeMap;
import java.util.TreeSet;
import java.util.regex.Matcher;
import java.util.regex.Pattern;

/** The rules of LANGUAGE.md that can be seen in the text of StagePair, or in its classes. */
public final class LanguageTest {
    private static final String[] FACE = {
        "int feed(int,int,int,int,int)", "int end(int)", "int word(int)", "int letter(int,int)",
        "int may(int,int,boolean)", "int first(int,boolean)", "int book()", "int digit(int)", "int ask()",
        "int asked(int)", "int thing(int)", "int row(int)", "int about(int,int)", "long cost()", "int means()",
        "long heard()", "int shortest(int)", "int length(int)", "int night()", "int misheard(int)", "int fits()",
        "int sure(int)", "int renew()", "int spell()", "int spelled(int)", "int read(int)", "int list()",
        "int coughs(int)", "int nearest()", "int manners()", "int fault(int)", "int mannerly()",
        "long questions(int)", "int make()", "int made(int)", "int lost(int,int)", "int mistaken(int,int,int)",
        "long chance(int)", "int likeliest()", "long share(int)", "int inTwo(int)", "int kind(int)",
        "int away(int)", "int fewest()", "long few()", "int bookOn(int,int)", "int digitOn(int,int,int)",
        "int turnOf(int)", "int putRight(int,int)", "int shown(int,int,int)", "int tally(int,int)",
        "int regret(int)", "int count(int)"};
    private static final String[] FORBIDDEN = {"throw", "throws", "try", "catch", "finally", "synchronized", "assert",
        "enum", "record", "interface", "protected", "package", "native", "volatile", "transient", "Object", "Exact",
        "double", "float", "String", "char", "hashCode", "equals", "toString", "Thread", "Random", "System\\.(?!arraycopy)",
        "->", "::", "java\\.(?!util\\.Arrays;)", "@", "\\bnew \\w+\\[\\]\\["};

    private static int wrong = 0;

    public static void main(String[] args) throws Exception {
        String source = Files.readString(Path.of("src/main/java/StagePair.java"));
        String code = withoutComments(source);
        face();
        members();
        words(code);
        methods(code);
        System.out.println("LanguageTest: " + wrong + " wrong");
        if (wrong > 0) {
            System.exit(1);
        }
    }

    private static void need(boolean good, String what) {
        if (!good) {
            wrong++;
            System.out.println(what);
        }
    }

    private static String withoutComments(String source) {
        return source.replaceAll("(?s)/\\*.*?\\*/", "").replaceAll("//[^\n]*", "");
    }

    private static void face() {
        Set<String> due = new TreeSet<>(Arrays.asList(FACE));
        Set<String> got = new TreeSet<>();
        for (Method m : StagePair.class.getDeclaredMethods()) {
            if (!Modifier.isPrivate(m.getModifiers()) && !m.isSynthetic()) {
                String types = Arrays.toString(m.getParameterTypes()).replaceAll("[\\[\\] ]", "");
                got.add(m.getReturnType() + " " + m.getName() + "(" + types + ")");
                need(m.getModifiers() == Modifier.PUBLIC, m + " is not just public");
            }
        }
        need(due.size() == 53 && got.equals(due), "the face is another one: " + got);
        need(StagePair.class.getModifiers() == (Modifier.PUBLIC | Modifier.FINAL), "the class is not public and final");
        Constructor<?>[] all = StagePair.class.getDeclaredConstructors();
        need(all.length == 1 && all[0].getParameterCount() == 0 && all[0].getModifiers() == Modifier.PUBLIC,
            "the constructor");
        Map<String, Integer> constants = new TreeMap<>();
        for (Field f : StagePair.class.getDeclaredFields()) {
            if (!Modifier.isPrivate(f.getModifiers())) {
                constants.put(f.getName(), f.getModifiers());
            }
        }
        int three = Modifier.PUBLIC | Modifier.STATIC | Modifier.FINAL;
        need(constants.equals(Map.of("NONE", three, "RANGE", three, "FULL", three, "STATE", three)),
            "other constants: " + constants);
    }

    private static boolean isStatic(Member m) {
        return Modifier.isStatic(m.getModifiers());
    }

    private static void members() {
        Set<String> names = new TreeSet<>();
        for (String f : FACE) {
            names.add(f.replaceAll("^\\w+ |\\(.*", ""));
        }
        Class<?>[] inside = StagePair.class.getDeclaredClasses();
        need(inside.length <= 12, "too many classes: " + inside.length);
        for (Class<?> c : inside) {
            need(Modifier.isStatic(c.getModifiers()) && !Modifier.isPublic(c.getModifiers()), c + " is not static");
            int fields = 0;
            for (Field f : c.getDeclaredFields()) {
                need(!isStatic(f) || Modifier.isFinal(f.getModifiers()), f + " is static, not final");
                fields += isStatic(f) ? 0 : 1;
            }
            need(fields <= 20, c + " has " + fields + " fields");
            for (Method m : c.getDeclaredMethods()) {
                need(!names.contains(m.getName()), m + " bears the name of a public one");
            }
        }
        for (Method m : StagePair.class.getDeclaredMethods()) {
            need(Modifier.isPublic(m.getModifiers()) || !names.contains(m.getName()), m + " bears a public name");
        }
    }

    private static void words(String code) {
        for (String word : FORBIDDEN) {
            boolean plain = word.matches("\\w+");
            Matcher m = Pattern.compile(plain ? "\\b" + word + "\\b" : word).matcher(code);
            need(!m.find(), "the code has " + word);
        }
        need(code.indexOf('"') < 0, "the code has a text");
        for (Matcher m = Pattern.compile("'(.)'").matcher(code); m.find();) {
            need(m.group(1).charAt(0) < 127, "a sign beyond 127");
        }
        need(Pattern.compile("while \\(true|for \\(;").matcher(code).find() == false, "a loop without an end");
    }

    private static void methods(String code) {
        String[] lines = code.split("\n");
        Pattern head = Pattern.compile("^( {4}| {8})(?! )[\\w\\[\\] ]*\\b(\\w+)\\(([^)]*)\\) \\{$");
        for (int i = 0; i < lines.length; i++) {
            Matcher m = head.matcher(lines[i]);
            if (!m.find() || m.group(2).equals("if") || m.group(2).equals("for")) {
                continue;
            }
            int to = i;
            while (!lines[to].equals(m.group(1) + "}")) {
                to++;
            }
            need(to - i + 1 <= 60, m.group(2) + " has " + (to - i + 1) + " lines");
            need(m.group(3).split(",").length <= 7, m.group(2) + " has too many parameters");
        }
        for (String line : lines) {
            need(line.length() <= 120, "a long line: " + line);
        }
    }
}
