import java.io.File;
import java.io.IOException;
import java.lang.reflect.Method;
import java.lang.reflect.Modifier;
import java.nio.file.Files;
import java.nio.file.Path;
import java.util.ArrayList;
import java.util.Comparator;
import java.util.List;
import java.util.regex.Matcher;
import java.util.regex.Pattern;
import java.util.stream.Stream;

/** README.md: its example answers what it says, its commands work, and it tells of every method. */
public final class ReadmeTest {
    private static final Pattern ANSWERED = Pattern.compile("\\w+ (\\w+) = (.+?);\\s*// ([-\\w]+).*");

    public static void main(String[] args) throws IOException, InterruptedException {
        String page = Files.readString(Path.of("README.md"));
        Path room = Files.createTempDirectory("readme");
        try {
            everyMethod(page);
            theExample(page, room);
            theCommands(page, room);
        } finally {
            remove(room);
        }
        Due.end();
    }

    private static void everyMethod(String page) {
        for (Method m : LuggageCounter.class.getDeclaredMethods()) {
            if (Modifier.isPublic(m.getModifiers())) {
                Due.is("told of: " + m.getName(), page.contains("| `" + m.getName() + "("), true);
            }
        }
    }

    private static void theExample(String page, Path room) throws IOException, InterruptedException {
        StringBuilder lines = new StringBuilder();
        int answers = 0;
        for (String block : blocks(page, "java")) {
            for (String line : block.split("\n")) {
                lines.append(line).append('\n');
                Matcher found = ANSWERED.matcher(line);
                if (found.matches()) {
                    lines.append("Due.is(\"").append(found.group(2)).append("\", ").append(found.group(1));
                    lines.append(", ").append(found.group(3)).append(");\n");
                    answers++;
                }
            }
        }
        Due.is("the example has answers", answers > 0, true);
        Path file = room.resolve("ReadmeExample.java");
        Files.writeString(file, "public final class ReadmeExample {\npublic static void main(String[] args) {\n"
                + lines + "Due.end();\n}\n}\n");
        String classes = new File(System.getProperty("java.class.path")).getAbsolutePath();
        Due.is("the example's exit code", exitCode(room, "java", "-cp", classes, file.toString()), 0);
    }

    private static void theCommands(String page, Path room) throws IOException, InterruptedException {
        Due.is(".ci/run can be run", Files.isExecutable(Path.of(".ci/run")), true);
        for (String block : blocks(page, "sh")) {
            // That one runs this test, and would not end if this test ran it.
            if (!block.equals(".ci/run\n")) {
                Due.is("exit code of\n" + block, exitCode(room, "sh", "-e", "-c", block), 0);
            }
        }
    }

    private static List<String> blocks(String page, String language) {
        List<String> found = new ArrayList<>();
        Matcher block = Pattern.compile("(?ms)^```" + language + "\n(.*?)^```$").matcher(page);
        while (block.find()) {
            found.add(block.group(1));
        }
        Due.is("blocks of " + language, !found.isEmpty(), true);
        return found;
    }

    private static int exitCode(Path room, String... command) throws IOException, InterruptedException {
        ProcessBuilder builder = new ProcessBuilder(command).inheritIO();
        builder.environment().put("TMPDIR", room.toString());
        return builder.start().waitFor();
    }

    private static void remove(Path room) throws IOException {
        try (Stream<Path> all = Files.walk(room)) {
            all.sorted(Comparator.reverseOrder()).map(Path::toFile).forEach(File::delete);
        }
    }
}
