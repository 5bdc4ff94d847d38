import java.io.File;
import java.lang.reflect.Method;
import java.lang.reflect.Modifier;
import java.net.URL;
import java.net.URLClassLoader;
import java.nio.file.Files;
import java.nio.file.Path;
import java.util.ArrayList;
import java.util.List;
import java.util.Map;
import java.util.TreeMap;
import java.util.regex.Matcher;
import java.util.regex.Pattern;

/**
 * README.md beside the class: its Java lines are compiled as one run, and each answer that it shows
 * must be the one that the class gives; its table must name the exceptions of the face.
 */
final class ReadmeTest {
    private static final Path README = Path.of("README.md");

    /** A call, with the variable that keeps its answer if there is one, and the answer up to a colon. */
    private static final Pattern SHOWN = Pattern.compile("(?:\\w+ (\\w+) = )?(.*);\\s*// ([^:]+)(?::.*)?");

    private static final String HEAD = "public final class ReadmeRun {\n"
            + "    interface Call { Object answer(); }\n"
            + "    static String told(Call c) {\n"
            + "        try { return String.valueOf(c.answer()); }\n"
            + "        catch (RuntimeException e) { return \"throws \" + e.getClass().getSimpleName(); }\n"
            + "    }\n"
            + "    public static void run(java.util.List<String> answers) {\n";

    private ReadmeTest() {
    }

    public static void main(String[] args) throws Exception {
        List<String> lines = Files.readAllLines(README);
        shownAnswers(javaLines(lines));
        table(lines);
        Check.end();
    }

    private static List<String> javaLines(List<String> lines) {
        List<String> found = new ArrayList<>();
        boolean inside = false;
        for (String line : lines) {
            if (line.startsWith("```")) {
                inside = line.equals("```java");
            } else if (inside) {
                found.add(line);
            }
        }
        return found;
    }

    private static void shownAnswers(List<String> code) throws Exception {
        StringBuilder source = new StringBuilder(HEAD);
        List<String> calls = new ArrayList<>();
        List<String> due = new ArrayList<>();
        for (String line : code) {
            Matcher shown = SHOWN.matcher(line);
            if (shown.matches()) {
                calls.add("README: " + shown.group(2));
                due.add(shown.group(3).equals("NONE") ? "-1" : shown.group(3));
                String variable = shown.group(1);
                source.append(variable == null ? "" : line + "\n");
                source.append("answers.add(told(() -> " + (variable == null ? shown.group(2) : variable) + "));\n");
            } else {
                Check.due("README: an answer is shown for " + line, line.startsWith("x."), false);
                source.append(line + "\n");
            }
        }
        List<String> answers = answersOf(source + "}\n}\n");
        Check.due("README: answers shown", answers.size(), due.size());
        for (int n = 0; n < answers.size(); n++) {
            Check.dueText(calls.get(n), answers.get(n), due.get(n));
        }
    }

    private static List<String> answersOf(String source) throws Exception {
        List<String> answers = new ArrayList<>();
        Path directory = Files.createTempDirectory("readme");
        try {
            Path file = Files.writeString(directory.resolve("ReadmeRun.java"), source);
            String classes = System.getProperty("java.class.path");
            String[] javac = {"javac", "-cp", classes, "-d", directory.toString(), file.toString()};
            Check.due("README: javac's exit code", new ProcessBuilder(javac).inheritIO().start().waitFor(), 0);
            try (URLClassLoader loader = new URLClassLoader(new URL[] {directory.toUri().toURL()})) {
                loader.loadClass("ReadmeRun").getMethod("run", List.class).invoke(null, answers);
            }
        } finally {
            for (File file : directory.toFile().listFiles()) {
                file.delete();
            }
            directory.toFile().delete();
        }
        return answers;
    }

    private static void table(List<String> lines) {
        Map<String, String> due = new TreeMap<>();
        for (Method m : LevelRows.class.getDeclaredMethods()) {
            if (Modifier.isPublic(m.getModifiers()) && m.getExceptionTypes().length > 0) {
                StringBuilder names = new StringBuilder();
                for (Class<?> e : m.getExceptionTypes()) {
                    names.append(" ").append(e.getSimpleName());
                }
                due.put(m.getName(), names.toString());
            }
        }
        Check.dueText("README: the table of exceptions", exceptionsIn(lines).toString(), due.toString());
    }

    private static Map<String, String> exceptionsIn(List<String> lines) {
        Map<String, String> found = new TreeMap<>();
        int row = lines.indexOf("| call | IndexOutOfBoundsException | IllegalArgumentException | IllegalStateException |");
        Check.due("README: there is a table of exceptions", row >= 0, true);
        String[] head = cells(lines.get(Math.max(row, 0)));
        for (row += 2; row < lines.size() && lines.get(row).startsWith("|"); row++) {
            String[] cells = cells(lines.get(row));
            StringBuilder names = new StringBuilder();
            for (int n = 2; n < cells.length; n++) {
                names.append(cells[n].isEmpty() ? "" : " " + head[n]);
            }
            for (String name : cells[1].split(", ")) {
                found.put(name.replace("`", ""), names.toString());
            }
        }
        return found;
    }

    /** The first cell is the empty text ahead of the first bar. */
    private static String[] cells(String row) {
        return row.split(" *\\| *");
    }
}
