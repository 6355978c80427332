import java.io.IOException;
import java.lang.reflect.Field;
import java.lang.reflect.Method;
import java.lang.reflect.Modifier;
import java.nio.charset.StandardCharsets;
import java.nio.file.Files;
import java.nio.file.Path;
import java.util.ArrayList;
import java.util.Comparator;
import java.util.List;
import java.util.regex.Matcher;
import java.util.regex.Pattern;

/**
 * README.md: its programs, copied out as a reader would and compiled beside the class, print what stands behind them;
 * its commands for tests pass; and it names every call.
 */
public final class Readme {
    private static final Pattern BLOCK = Pattern.compile("(?ms)^```(\\w+)\n(.*?)^```$");
    private static final Pattern PROGRAM = Pattern.compile("public final class (\\w+) ");
    private static final Path CLASS = Path.of("src/main/java/PatchbayScript.java");

    /** Its kind is the word behind the marks that begin it. */
    private record Block(String kind, String text) {
    }

    private record Ended(int code, String printed) {
    }

    public static void main(String[] args) throws IOException, InterruptedException {
        String readme = Files.readString(Path.of("README.md"));
        List<Block> blocks = blocksOf(readme);
        Path folder = Files.createTempDirectory("readme");
        try {
            programsPrint(blocks, folder);
            firstCommandsPrint(blocks, folder);
            testCommandsPass(blocks);
        } finally {
            remove(folder);
        }
        namesAll(readme);
        Due.end();
    }

    private static List<Block> blocksOf(String readme) {
        List<Block> blocks = new ArrayList<>();
        Matcher matcher = BLOCK.matcher(readme);
        while (matcher.find()) {
            blocks.add(new Block(matcher.group(1), matcher.group(2)));
        }
        return blocks;
    }

    private static List<Block> ofKind(List<Block> blocks, String kind) {
        return blocks.stream().filter(block -> block.kind.equals(kind)).toList();
    }

    private static String nameOf(Block program) {
        Matcher matcher = PROGRAM.matcher(program.text);
        return matcher.find() ? matcher.group(1) : "";
    }

    /** What a program prints stands in the next block. */
    private static void programsPrint(List<Block> blocks, Path folder) throws IOException, InterruptedException {
        Files.copy(CLASS, folder.resolve(CLASS.getFileName()));
        Due.is("whether there are programs", ofKind(blocks, "java").isEmpty(), false);
        for (int i = 0; i < blocks.size(); i++) {
            if (!blocks.get(i).kind.equals("java")) {
                continue;
            }
            String name = nameOf(blocks.get(i));
            Files.writeString(folder.resolve(name + ".java"), blocks.get(i).text);
            String commands = "javac -Xlint:all -Werror PatchbayScript.java " + name + ".java && java " + name;
            Ended ended = inShell(commands, folder);
            Block next = i + 1 < blocks.size() ? blocks.get(i + 1) : new Block("", "");
            Due.is("what stands behind " + name, next.kind, "text");
            Due.is("what " + name + " prints", ended.printed, next.text);
            Due.is("the exit code of " + name, ended.code, 0);
        }
    }

    /** The first commands are those for the first program; its classes are made anew by them. */
    private static void firstCommandsPrint(List<Block> blocks, Path folder) throws IOException, InterruptedException {
        String name = nameOf(ofKind(blocks, "java").get(0));
        Files.delete(folder.resolve(name + ".class"));
        Files.delete(folder.resolve("PatchbayScript.class"));
        Ended ended = inShell(ofKind(blocks, "sh").get(0).text, folder);
        Due.is("what the first commands print", ended.printed, ofKind(blocks, "text").get(0).text);
        Due.is("their exit code", ended.code, 0);
    }

    private static void testCommandsPass(List<Block> blocks) throws IOException, InterruptedException {
        List<Block> commands = ofKind(blocks, "sh");
        Due.is("whether there are commands for tests", commands.size() > 1, true);
        for (Block command : commands.subList(1, commands.size())) {
            Ended ended = inShell(command.text, Path.of("."));
            Due.is("the exit code of " + command.text + ended.printed, ended.code, 0);
        }
    }

    private static Ended inShell(String commands, Path folder) throws IOException, InterruptedException {
        Process process = new ProcessBuilder("bash", "-e", "-c", commands).directory(folder.toFile())
                .redirectError(ProcessBuilder.Redirect.INHERIT).start();
        String printed = new String(process.getInputStream().readAllBytes(), StandardCharsets.UTF_8);
        return new Ended(process.waitFor(), printed);
    }

    private static void remove(Path folder) throws IOException {
        List<Path> paths;
        try (var walk = Files.walk(folder)) {
            paths = walk.sorted(Comparator.reverseOrder()).toList();
        }
        for (Path path : paths) {
            Files.delete(path);
        }
    }

    private static void namesAll(String readme) {
        for (Method method : PatchbayScript.class.getDeclaredMethods()) {
            if (Modifier.isPublic(method.getModifiers())) {
                Due.is("whether it names " + method.getName(), readme.contains("`" + method.getName() + "("), true);
                for (Class<?> exception : method.getExceptionTypes()) {
                    String name = exception.getSimpleName();
                    Due.is("whether it tells of " + name, readme.contains("`" + name + "`"), true);
                }
            }
        }
        for (Field field : PatchbayScript.class.getFields()) {
            Due.is("whether it names " + field.getName(), readme.contains("`" + field.getName() + "`"), true);
        }
        Due.is("whether it tells how long an object is used", readme.contains("at most 512 calls"), true);
    }
}
