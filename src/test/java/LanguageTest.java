import java.lang.reflect.Constructor;
import java.lang.reflect.Field;
import java.lang.reflect.Method;
import java.lang.reflect.Modifier;
import java.nio.charset.StandardCharsets;
import java.nio.file.Files;
import java.nio.file.Paths;
import java.util.ArrayList;
import java.util.Arrays;
import java.util.List;
import java.util.Set;
import java.util.TreeSet;
import java.util.regex.Matcher;
import java.util.regex.Pattern;

/** What can be seen of LANGUAGE.md's rules from the source and the compiled class. Run from the project's folder. */
public final class LanguageTest {
    private static final String SOURCE = "src/main/java/WellHeirs.java";
    private static int wrong = 0;

    private static void must(boolean good, String what) {
        if (!good) {
            wrong++;
            System.out.println("LanguageTest: " + what);
        }
    }

    /** The source without comments, texts and signs, lines kept. */
    private static String bare(String source) {
        String s = source.replaceAll("\"(\\\\.|[^\"\\\\])*\"", "\"\"").replaceAll("'(\\\\.|[^'\\\\])'", "' '");
        Matcher m = Pattern.compile("/\\*.*?\\*/", Pattern.DOTALL).matcher(s);
        StringBuilder out = new StringBuilder();
        while (m.find()) m.appendReplacement(out, m.group().replaceAll("[^\n]", ""));
        m.appendTail(out);
        return out.toString().replaceAll("//[^\n]*", "");
    }

    private static void words(String bare) {
        for (String word : ("throw throws try catch finally synchronized assert Object Class Thread Random Scanner Runtime "
            + "hashCode toString volatile transient native yield var sealed").split(" ")) {
            must(!Pattern.compile("\\b" + word + "\\b").matcher(bare).find(), "the word " + word);
        }
        must(!bare.contains("->") && !bare.contains("::"), "a lambda, a method reference or an arrow");
        must(!bare.contains("\" +") && !bare.contains("+ \""), "texts joined by +");
        must(!bare.contains("@"), "an annotation");
        must(!bare.matches("(?s).*\\bpackage\\b.*"), "a package line");
        only(bare, "import ([\\w.]+);", "java.util.Arrays");
        only(bare, "\\bSystem\\.(\\w+)", "arraycopy");
        only(bare, "\\bArrays\\.(\\w+)", "copyOf", "copyOfRange", "fill", "*");
        only(bare, "\\bMath\\.(\\w+)", "min", "max", "abs", "floorMod", "floorDiv");
        only(bare, "\\bInteger\\.(\\w+)", "bitCount", "min", "max", "compare");
        for (int i = 0; i < bare.length(); i++) must(bare.charAt(i) < 128, "a sign above 127");
    }

    private static void only(String bare, String pattern, String... allowed) {
        Matcher m = Pattern.compile(pattern).matcher(bare);
        while (m.find()) {
            boolean imported = m.group().startsWith("Arrays.") && bare.startsWith("java.util.", Math.max(0, m.start() - 10));
            must(imported || Arrays.asList(allowed).contains(m.group(1)), m.group());
        }
    }

    private static void methodLengths(String bare) {
        String[] lines = bare.split("\n");
        Pattern head = Pattern.compile("^( {4}| {8})(public |private |static |final )*[\\w\\[\\]]+( \\w+)?\\([^;]*\\) \\{$");
        for (int i = 0; i < lines.length; i++) {
            Matcher m = head.matcher(lines[i]);
            if (!m.find() || lines[i].trim().matches("(if|for|while|switch|return)\\b.*")) continue;
            int end = i;
            while (end < lines.length && !lines[end].equals(m.group(1) + "}")) end++;
            must(end - i + 1 <= 60, "a method of " + (end - i + 1) + " lines: " + lines[i].trim());
        }
    }

    private static void face() throws Exception {
        String doc = new String(Files.readAllBytes(Paths.get("../shared/DOC.md")), StandardCharsets.UTF_8);
        Set<String> due = new TreeSet<>();
        Matcher m = Pattern.compile("    public (static final )?(\\w+) (\\w+)(\\(([^)]*)\\))?( = -1)?;").matcher(doc);
        while (m.find()) due.add(m.group(2) + " " + m.group(3) + (m.group(4) == null ? "" : "(" + types(m.group(5)) + ")"));
        must(due.size() == 48, "the document's face has 47 methods and a constant, seen were " + due.size());
        Set<String> there = new TreeSet<>();
        for (Method method : WellHeirs.class.getDeclaredMethods()) {
            if (Modifier.isPrivate(method.getModifiers()) || method.isSynthetic()) continue;
            StringBuilder t = new StringBuilder();
            for (Class<?> type : method.getParameterTypes()) t.append(t.length() == 0 ? "" : ",").append(type.getName());
            there.add(method.getReturnType().getName() + " " + method.getName() + "(" + t + ")");
        }
        for (Field field : WellHeirs.class.getDeclaredFields()) {
            if (!Modifier.isPrivate(field.getModifiers())) there.add(field.getType().getName() + " " + field.getName());
        }
        must(there.equals(due), "the face is " + there + ", due is " + due);
        Constructor<?>[] constructors = WellHeirs.class.getDeclaredConstructors();
        must(constructors.length == 1 && Modifier.isPublic(constructors[0].getModifiers()), "the constructor");
        must(Modifier.isFinal(WellHeirs.class.getModifiers()) && Modifier.isPublic(WellHeirs.class.getModifiers()), "public and final");
    }

    private static String types(String parameters) {
        List<String> out = new ArrayList<>();
        for (String p : parameters.split(", ")) if (!p.isEmpty()) out.add(p.split(" ")[0]);
        return String.join(",", out);
    }

    private static void classes() {
        Class<?>[] inside = WellHeirs.class.getDeclaredClasses();
        must(inside.length <= 11, "too many classes");
        Set<String> names = new TreeSet<>();
        for (Method method : WellHeirs.class.getDeclaredMethods()) if (Modifier.isPublic(method.getModifiers())) names.add(method.getName());
        List<Class<?>> all = new ArrayList<>(Arrays.asList(inside));
        all.add(WellHeirs.class);
        for (Class<?> one : all) {
            if (one != WellHeirs.class) must(Modifier.isStatic(one.getModifiers()) && !Modifier.isPublic(one.getModifiers()), one + " is static, not public");
            int fields = 0;
            for (Field field : one.getDeclaredFields()) {
                boolean constant = Modifier.isStatic(field.getModifiers());
                if (!constant) fields++;
                must(!constant || Modifier.isFinal(field.getModifiers()), field + " is final");
                must(!constant || Arrays.asList("int", "long", "boolean", "char", "java.lang.String").contains(field.getType().getName()), field + " is a constant");
            }
            must(fields <= 20, one + " has " + fields + " fields");
            for (Method method : one.getDeclaredMethods()) {
                must(method.getParameterCount() <= 7, method + " has too many parameters");
                must(Modifier.isPublic(method.getModifiers()) || !names.contains(method.getName()), method + " bears the name of a public one");
            }
        }
    }

    public static void main(String[] args) throws Exception {
        String bare = bare(new String(Files.readAllBytes(Paths.get(SOURCE)), StandardCharsets.UTF_8));
        words(bare);
        methodLengths(bare);
        face();
        classes();
        System.out.println(wrong == 0 ? "LanguageTest: the rules that it sees are kept" : "LanguageTest: " + wrong + " faults");
        if (wrong != 0) System.exit(1);
    }
}
