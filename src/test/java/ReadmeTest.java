import java.io.File;
import java.io.StringWriter;
import java.lang.reflect.Method;
import java.net.URI;
import java.net.URL;
import java.net.URLClassLoader;
import java.util.ArrayList;
import java.util.Arrays;
import java.util.List;
import java.util.Set;
import java.util.TreeSet;
import java.util.regex.Matcher;
import java.util.regex.Pattern;
import javax.tools.JavaCompiler;
import javax.tools.JavaFileObject;
import javax.tools.SimpleJavaFileObject;
import javax.tools.ToolProvider;

/** README.md says what is so: its example calls answer as told there, and what it quotes and names is there. */
public final class ReadmeTest {
    private static final String OUT = "build/readme";
    private static final Pattern BLOCK = Pattern.compile("```java\n(.*?)```", Pattern.DOTALL);
    private static final Pattern CALL = Pattern.compile("x\\.(\\w+)\\(.*\\);.*");
    private static final Pattern TOLD = Pattern.compile("(x\\.\\w+\\(.*?\\)); +// (-?\\d+|true|false)(: .*)?");

    private static final String README = Document.read("README.md").replace("\r", "");
    private static final List<String> lines = new ArrayList<>();
    private static final List<String> due = new ArrayList<>();
    private static final List<String> got = new ArrayList<>();
    private static int wrong = 0;

    private static void must(boolean good, String what) {
        if (!good) {
            wrong++;
            System.out.println("ReadmeTest: " + what);
        }
    }

    /** Called by the compiled example, once for each call that tells its answer. */
    public static void told(long answer) {
        got.add(Long.toString(answer));
    }

    public static void told(boolean answer) {
        got.add(Boolean.toString(answer));
    }

    // ---- the calls

    /** The blocks as one class: those of statements as methods of their own, each call's answer handed to told(). */
    private static String example() {
        StringBuilder members = new StringBuilder();
        StringBuilder calls = new StringBuilder();
        int blocks = 0;
        Matcher block = BLOCK.matcher(README);
        while (block.find()) {
            if (block.group(1).startsWith("static ")) {
                members.append(block.group(1));
            } else {
                members.append("static void block").append(blocks).append("() {\n").append(statements(block.group(1))).append("}\n");
                calls.append("block").append(blocks).append("();\n");
                blocks++;
            }
        }
        must(blocks > 0, "no example is shown");
        return "public final class ReadmeExample {\n" + members + "public static void run() {\n" + calls + "}\n}\n";
    }

    private static String statements(String block) {
        StringBuilder out = new StringBuilder();
        for (String line : block.split("\n")) {
            Matcher told = TOLD.matcher(line.trim());
            if (told.matches()) {
                lines.add(line.trim());
                due.add(told.group(2));
                out.append("ReadmeTest.told(").append(told.group(1)).append(");\n");
            } else {
                must(!CALL.matcher(line.trim()).matches(), "no answer is told for " + line.trim());
                out.append(line).append("\n");
            }
        }
        return out.toString();
    }

    private static boolean compile(String source) {
        JavaCompiler compiler = ToolProvider.getSystemJavaCompiler();
        if (compiler == null) return false;
        JavaFileObject file = new SimpleJavaFileObject(URI.create("string:///ReadmeExample.java"), JavaFileObject.Kind.SOURCE) {
            @Override
            public CharSequence getCharContent(boolean ignoreErrors) {
                return source;
            }
        };
        File out = new File(OUT);
        if (!out.isDirectory() && !out.mkdirs()) return false;
        StringWriter said = new StringWriter();
        List<String> options = Arrays.asList("-d", OUT, "-cp", System.getProperty("java.class.path"));
        boolean good = compiler.getTask(said, null, null, options, null, Arrays.asList(file)).call();
        System.out.print(said);
        return good;
    }

    private static void answers() throws Exception {
        boolean compiles = compile(example());
        must(compiles, "the example does not compile");
        if (!compiles) return;
        try (URLClassLoader loader = new URLClassLoader(new URL[] {new File(OUT).toURI().toURL()}, ReadmeTest.class.getClassLoader())) {
            loader.loadClass("ReadmeExample").getMethod("run").invoke(null);
        }
        must(got.size() == due.size() && !due.isEmpty(), got.size() + " answers, told are " + due.size());
        for (int i = 0; i < Math.min(got.size(), due.size()); i++) {
            must(got.get(i).equals(due.get(i)), lines.get(i) + " answered " + got.get(i));
        }
    }

    // ---- what is quoted and named

    private static void quotes() {
        Matcher quote = Pattern.compile("(?m)(^> .*\n)+").matcher(README);
        int quotes = 0;
        while (quote.find()) {
            quotes++;
            String words = quote.group().replaceAll("(?m)^> ", "").replaceAll("\\s+", " ").trim();
            must(Document.text().contains(words), "the document does not say: " + words);
        }
        must(quotes > 0, "the document is not quoted");
    }

    /** The names at the head of the points under a heading: - `Name`, `Name`: .. */
    private static Set<String> points(String heading) {
        int from = README.indexOf("## " + heading + "\n");
        must(from >= 0, "there is no heading " + heading);
        int to = README.indexOf("\n## ", from + 1);
        String part = from < 0 ? "" : README.substring(from, to < 0 ? README.length() : to);
        Set<String> names = new TreeSet<>();
        Matcher point = Pattern.compile("(?m)^- ((`\\w+`,? ?)+):").matcher(part);
        while (point.find()) {
            Matcher name = Pattern.compile("\\w+").matcher(point.group(1));
            while (name.find()) names.add(name.group());
        }
        return names;
    }

    private static void names() {
        Set<String> classes = new TreeSet<>();
        classes.add("WellHeirs");
        for (Class<?> inside : WellHeirs.class.getDeclaredClasses()) classes.add(inside.getSimpleName());
        must(points("How it is built").equals(classes), "the classes are " + classes);
        Set<String> tests = new TreeSet<>();
        for (String file : new File("src/test/java").list()) if (file.endsWith("Test.java")) tests.add(file.replace(".java", ""));
        must(points("How to run its tests").equals(tests), "the tests are " + tests);
    }

    /** Each name() in the text between the blocks is a call of the face. */
    private static void calls() {
        Set<String> face = new TreeSet<>();
        for (Method method : WellHeirs.class.getMethods()) face.add(method.getName());
        Matcher call = Pattern.compile("`(\\w+)\\((n|)\\)`").matcher(README);
        while (call.find()) must(face.contains(call.group(1)), "there is no call " + call.group(1));
    }

    public static void main(String[] args) throws Exception {
        answers();
        quotes();
        names();
        calls();
        System.out.println("ReadmeTest: " + got.size() + " answers, " + (wrong == 0 ? "all is as it says" : wrong + " faults"));
        if (wrong != 0) System.exit(1);
    }
}
