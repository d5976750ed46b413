import java.net.*;
import java.nio.file.*;
import java.util.*;
import java.util.regex.*;

/** README.md's Java, compiled and run: each call there answers what stands behind it. */
public final class ReadmeTest {
    private static final Pattern ANSWERED = Pattern.compile("(int \\w+ = )?(house\\..*\\));\\s*// (-?\\d+)\\b.*");
    private static int wrong, calls;

    /** What the compiled page calls. */
    public static void due(int line, long got, long want) {
        calls++;
        if (got == want) return;
        wrong++;
        System.out.println("README.md, line " + line + ": answered " + got + ", due is " + want);
    }

    /** A block that begins with static is a method for the others; each of these has names of its own. */
    private static String source(List<String> page) {
        StringBuilder methods = new StringBuilder(), blocks = new StringBuilder();
        StringBuilder block = null;
        for (int i = 0; i < page.size(); i++) {
            String line = page.get(i);
            if (!line.startsWith("```")) {
                if (block != null) block.append(checked(line, i + 1)).append('\n');
            } else if (block == null) {
                block = new StringBuilder();
            } else {
                if (block.indexOf("static ") == 0) methods.append(block);
                else blocks.append("{\n").append(block).append("}\n");
                block = null;
            }
        }
        return "public final class Page {\n" + methods + "public static void run() {\n" + blocks + "}\n}\n";
    }

    private static String checked(String line, int number) {
        Matcher m = ANSWERED.matcher(line);
        if (!m.matches()) return line;
        String due = "ReadmeTest.due(" + number + ", ";
        if (m.group(1) == null) return due + m.group(2) + ", " + m.group(3) + "L);";
        String name = m.group(1).split(" ")[1];
        return m.group(1) + m.group(2) + "; " + due + name + ", " + m.group(3) + "L);";
    }

    private static boolean compile(String source, Path into) throws Exception {
        Path file = into.resolve("Page.java");
        Files.writeString(file, source);
        String[] call = {"javac", "-encoding", "UTF-8", "-d", into.toString(), "-cp", System.getProperty("java.class.path"), file.toString()};
        return new ProcessBuilder(call).inheritIO().start().waitFor() == 0;
    }

    private static void run(Path compiled) throws Exception {
        try (URLClassLoader loader = new URLClassLoader(new URL[]{compiled.toUri().toURL()})) {
            loader.loadClass("Page").getMethod("run").invoke(null);
        }
    }

    public static void main(String[] args) throws Exception {
        Path into = Files.createTempDirectory("page");
        boolean compiled = compile(source(Files.readAllLines(Path.of("README.md"))), into);
        if (compiled) run(into);
        for (String name : new String[]{"Page.java", "Page.class", ""}) Files.deleteIfExists(into.resolve(name));
        System.out.println("ReadmeTest: " + calls + " calls, " + wrong + " wrong");
        if (!compiled || wrong != 0 || calls == 0) System.exit(1);
    }
}
