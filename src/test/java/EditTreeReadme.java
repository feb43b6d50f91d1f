import java.io.IOException;
import java.io.StringWriter;
import java.lang.reflect.Field;
import java.lang.reflect.Method;
import java.lang.reflect.Modifier;
import java.nio.file.Files;
import java.nio.file.Path;
import java.util.ArrayList;
import java.util.Comparator;
import java.util.List;
import java.util.regex.Matcher;
import java.util.regex.Pattern;
import java.util.stream.Stream;

/**
 * README.md is true as written: its calls compile and give the answers that stand behind them, its
 * commands run, and it names every call, every constant with its value, and every test.
 *
 * All is tried in a new directory that looks like the checkout, so that nothing is left in it.
 */
public final class EditTreeReadme {
    private static final Pattern ANSWERED = Pattern.compile("(tree\\..*\\));\\s*// ([^:]+?)(:.*)?");
    private static final Pattern TEXT = Pattern.compile(".*node (\\d+) has the text \"(.*)\"");
    /** This test is a part of that command, which would go round in a circle. */
    private static final String ALL_TESTS = ".ci/run";
    private static int answers = 0;
    private static int commands = 0;
    private static int wrong = 0;

    public static void main(String[] args) throws IOException, InterruptedException {
        List<String> page = Files.readAllLines(Path.of("README.md"));
        Path place = Files.createTempDirectory("readme");
        try {
            Path checkout = likeTheCheckout(place);
            runBlocks(blocks(page), checkout);
            runCommands(page, checkout);
        } finally {
            removeAll(place);
        }
        names(String.join("\n", page));
        hold(answers > 0 && commands > 0, "README.md has calls and commands");
        System.out.println(answers + " answers and " + commands + " commands of README.md tried");
        if (wrong > 0) {
            System.exit(1);
        }
    }

    private static void hold(boolean holds, String what) {
        if (!holds) {
            wrong++;
            System.out.println("does not hold: " + what);
        }
    }

    // ---- the directory

    private static Path likeTheCheckout(Path place) throws IOException {
        Path checkout = Files.createDirectory(place.resolve("main"));
        Files.createSymbolicLink(checkout.resolve("src"), Path.of("src").toRealPath());
        Files.createSymbolicLink(checkout.resolve(".ci"), Path.of(".ci").toRealPath());
        Files.createSymbolicLink(checkout.resolve("README.md"), Path.of("README.md").toRealPath());
        Files.createSymbolicLink(place.resolve("shared"), Path.of("../shared").toRealPath());
        return checkout;
    }

    /** Links are taken away, not followed. */
    private static void removeAll(Path place) throws IOException {
        try (Stream<Path> found = Files.walk(place)) {
            for (Path path : found.sorted(Comparator.reverseOrder()).toList()) {
                Files.delete(path);
            }
        }
    }

    /** The exit code; what a failing command has printed is shown. */
    private static int exitCode(Path directory, String... command) throws IOException, InterruptedException {
        ProcessBuilder builder = new ProcessBuilder(command);
        builder.directory(directory.toFile()).redirectErrorStream(true);
        Process process = builder.start();
        StringWriter printed = new StringWriter();
        process.inputReader().transferTo(printed);
        int code = process.waitFor();
        if (code != 0) {
            System.out.print(printed);
        }
        return code;
    }

    // ---- calls

    private static List<List<String>> blocks(List<String> page) {
        List<List<String>> blocks = new ArrayList<>();
        List<String> block = null;
        for (String line : page) {
            if (line.equals("```java")) {
                block = new ArrayList<>();
                blocks.add(block);
            } else if (line.startsWith("```")) {
                block = null;
            } else if (block != null) {
                block.add(line);
            }
        }
        return blocks;
    }

    private static void runBlocks(List<List<String>> blocks, Path checkout) throws IOException, InterruptedException {
        Path directory = Files.createDirectory(checkout.resolveSibling("blocks"));
        for (int i = 0; i < blocks.size(); i++) {
            String name = "Block" + i;
            Path file = directory.resolve(name + ".java");
            Files.writeString(file, program(name, blocks.get(i)));
            String source = checkout.resolve("src/main/java/EditTree.java").toString();
            boolean compiled = exitCode(directory, "javac", "-d", "out", source, file.toString()) == 0;
            hold(compiled, "block " + i + " of README.md compiles");
            hold(!compiled || exitCode(directory, "java", "-cp", "out", name) == 0,
                    "block " + i + " of README.md gives its answers");
        }
    }

    /** The block as it stands, and a second time with each call compared with its answer. */
    private static String program(String name, List<String> block) {
        StringBuilder code = new StringBuilder("public class " + name + " {\n");
        code.append("static void asItStands() {\n").append(String.join("\n", block)).append("\n}\n");
        code.append("public static void main(String[] args) {\nasItStands();\n");
        for (String line : block) {
            code.append(compared(line)).append('\n');
        }
        code.append("}\nstatic void due(String line, long got, long want) {\n")
                .append("if (got != want) { System.out.println(line + \" - answered \" + got); System.exit(1); }\n}\n}\n");
        return code.toString();
    }

    private static String compared(String line) {
        Matcher call = ANSWERED.matcher(line);
        if (!call.matches()) {
            hold(!line.startsWith("tree."), "an answer stands behind each call of README.md: " + line);
            return line;
        }
        answers++;
        StringBuilder code = new StringBuilder(due(line, call.group(1), call.group(2)));
        Matcher text = TEXT.matcher(line);
        if (text.matches()) {
            String node = text.group(1);
            String characters = text.group(2);
            code.append(due(line, "tree.lengthOf(" + node + ")", String.valueOf(characters.length())));
            for (int i = 0; i < characters.length(); i++) {
                String character = "tree.characterOf(" + node + ", " + i + ")";
                code.append(due(line, character, String.valueOf((int) characters.charAt(i))));
            }
        }
        return code.toString();
    }

    private static String due(String line, String call, String answer) {
        String quoted = "\"" + line.replace("\\", "\\\\").replace("\"", "\\\"") + "\"";
        return "due(" + quoted + ", " + call + ", " + answer + ");";
    }

    // ---- commands

    private static void runCommands(List<String> page, Path checkout) throws IOException, InterruptedException {
        for (String line : page) {
            if (line.startsWith("    ")) {
                String command = line.trim();
                commands++;
                if (command.equals(ALL_TESTS)) {
                    hold(Files.isExecutable(checkout.resolve(command)), command + " can be run");
                } else {
                    hold(exitCode(checkout, "sh", "-c", command) == 0, command + " runs");
                }
            }
        }
    }

    // ---- names

    private static void names(String page) throws IOException {
        for (Method method : EditTree.class.getDeclaredMethods()) {
            if (Modifier.isPublic(method.getModifiers())) {
                hold(page.contains("`" + method.getName() + "`"), "README.md names " + method.getName());
            }
        }
        for (Field field : EditTree.class.getFields()) {
            hold(page.contains("| `" + field.getName() + "` | " + valueOf(field) + " |"),
                    "README.md tells the value of " + field.getName());
        }
        try (Stream<Path> tests = Files.list(Path.of("src/test/java"))) {
            for (Path test : tests.toList()) {
                String name = test.getFileName().toString().replace(".java", "");
                hold(page.contains("`" + name + "`"), "README.md names " + name);
            }
        }
    }

    private static int valueOf(Field field) {
        try {
            return field.getInt(null);
        } catch (IllegalAccessException e) {
            throw new IllegalStateException(e);
        }
    }
}
