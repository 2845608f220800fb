import java.io.IOException;
import java.net.URL;
import java.net.URLClassLoader;
import java.nio.file.Files;
import java.nio.file.Path;
import java.util.ArrayList;
import java.util.Comparator;
import java.util.List;
import java.util.Set;
import java.util.TreeSet;
import java.util.regex.Matcher;
import java.util.regex.Pattern;
import java.util.stream.Stream;
import javax.tools.JavaCompiler;
import javax.tools.ToolProvider;

/**
 * The calls and answers that README.md shows. All its java blocks together are one program; a line of the form
 * "call; // answer" or "call; // answer: words" is held against the answer, which is a number, a character in quotes,
 * true, false, the name of a refusal, or "throws" with an exception's name. All other lines run as they stand.
 */
public final class ReadmeTest {
    private static final Due due = new Due();
    private static final Pattern ANSWERED =
        Pattern.compile("(?:(long|int|boolean) (\\w+) = )?(rows\\.(\\w+)\\(.*\\)); *// ([^:]+)(?::.*)?");
    private static final Pattern CALL = Pattern.compile("rows\\.(\\w+)\\(");
    private static final Set<String> METHODS = Set.of(
        "block", "next", "letter", "type", "read", "bar", "given", "old", "map", "named");

    public static void main(String[] args) throws Exception {
        due.says("README.md");
        List<String> lines = shownLines(Files.readAllLines(Path.of("README.md")));
        everyMethodIsShown(lines);
        everyAnswerIsShown(lines);
        theAnswersAreDue(lines);
        due.end();
    }

    /** The lines of the java blocks. */
    private static List<String> shownLines(List<String> readme) {
        List<String> shown = new ArrayList<>();
        boolean inside = false;
        for (String line : readme) {
            if (line.startsWith("```")) {
                inside = line.equals("```java");
            } else if (inside) {
                shown.add(line);
            }
        }
        return shown;
    }

    private static void everyMethodIsShown(List<String> lines) {
        Set<String> missing = new TreeSet<>(METHODS);
        for (String line : lines) {
            Matcher call = CALL.matcher(line);
            while (call.find()) {
                missing.remove(call.group(1));
            }
        }
        if (!missing.isEmpty()) {
            due.tell("these methods are not shown: " + missing);
        }
    }

    /** A line whose answer cannot be made out would not be held against anything. */
    private static void everyAnswerIsShown(List<String> lines) {
        for (String line : lines) {
            Matcher call = CALL.matcher(line);
            boolean answers = call.find() && !call.group(1).equals("type");
            if (answers && !ANSWERED.matcher(line).matches()) {
                due.tell("no answer can be made out: " + line);
            }
        }
    }

    private static void theAnswersAreDue(List<String> lines) throws Exception {
        Path home = Files.createTempDirectory("readme");
        try {
            if (compiles(program(lines), home)) {
                run(home);
            } else {
                due.tell("its lines do not compile, or this java has no javac");
            }
        } finally {
            delete(home);
        }
    }

    private static boolean compiles(String program, Path home) throws IOException {
        Path source = home.resolve("ReadmeUse.java");
        Files.writeString(source, program);
        JavaCompiler compiler = ToolProvider.getSystemJavaCompiler();
        String classPath = System.getProperty("java.class.path");
        return compiler != null
            && compiler.run(null, null, null, "-cp", classPath, "-d", home.toString(), source.toString()) == 0;
    }

    private static void run(Path home) throws Exception {
        try (URLClassLoader loader = new URLClassLoader(new URL[] {home.toUri().toURL()})) {
            List<String> wrong = new ArrayList<>();
            loader.loadClass("ReadmeUse").getMethod("run", List.class).invoke(null, wrong);
            for (String text : wrong) {
                due.tell(text);
            }
        }
    }

    private static String program(List<String> lines) {
        StringBuilder source = new StringBuilder("public final class ReadmeUse {\n");
        source.append("static void is(java.util.List<String> wrong, String call, Object got, Object want) {\n");
        source.append("if (!got.equals(want)) wrong.add(call + \" answered \" + got + \", it shows \" + want);\n}\n");
        source.append("public static void run(java.util.List<String> wrong) {\n");
        for (String line : lines) {
            Matcher answered = ANSWERED.matcher(line);
            source.append(answered.matches() ? checked(answered) : line).append('\n');
        }
        return source.append("}\n}\n").toString();
    }

    private static String checked(Matcher line) {
        String call = line.group(3);
        String answer = line.group(5).strip();
        String text = '"' + call.replace("\"", "\\\"") + '"';
        if (answer.startsWith("throws ")) {
            String name = answer.substring("throws ".length());
            return "{ String got = \"nothing thrown\"; try { " + call + "; } catch (RuntimeException e) { "
                + "got = e.getClass().getSimpleName(); } is(wrong, " + text + ", got, \"" + name + "\"); }";
        }
        String wanted = answerOf(answer);
        if (line.group(2) == null) {
            return "is(wrong, " + text + ", " + boxed(call, line.group(4)) + ", " + wanted + ");";
        }
        String variable = line.group(2);
        return line.group(1) + " " + variable + " = " + call + ";\nis(wrong, " + text + ", "
            + boxed(variable, line.group(4)) + ", " + wanted + ");";
    }

    /** All whole numbers and characters are compared as long. */
    private static String boxed(String expression, String method) {
        return method.equals("given") ? expression : "(long) " + expression;
    }

    private static String answerOf(String answer) {
        if (answer.equals("true") || answer.equals("false")) {
            return answer;
        }
        if (answer.matches("-?[0-9]+")) {
            return answer + "L";
        }
        return "(long) " + (answer.startsWith("'") ? answer : "NumberRows2." + answer);
    }

    private static void delete(Path home) throws IOException {
        try (Stream<Path> files = Files.walk(home)) {
            for (Path file : files.sorted(Comparator.reverseOrder()).toList()) {
                Files.delete(file);
            }
        }
    }
}
