import java.io.IOException;
import java.nio.file.Files;
import java.nio.file.Path;
import java.util.ArrayList;
import java.util.List;
import java.util.regex.Matcher;
import java.util.regex.Pattern;

/** README.md: its program answers as it says, and it leaves out no call and no test. */
public final class ReadmeTest {
    private static final Pattern CALLED = Pattern.compile("\\bx\\.\\w+\\(");
    private static final Pattern SAID = Pattern.compile(" *say\\(x\\..*\\);\\s+// (-?\\d+)(?:[: ].*)?");
    private static final Pattern SIGNATURE = Pattern.compile("public (?:int|long) (\\w+\\([^)]*\\));");
    private static final Check check = new Check();

    public static void main(String[] args) throws IOException, InterruptedException {
        String readme = Files.readString(Path.of("README.md"));
        exampleAnswersAsTold(readme);
        everyCallIsNamed(readme);
        everyTestIsNamed(readme);
        check.end("ReadmeTest");
    }

    private static void exampleAnswersAsTold(String readme) throws IOException, InterruptedException {
        String program = onlyBlock(readme, "java");
        List<String> told = toldAnswers(program);
        check.due("the example has answers", told.size() > 20);
        try (Scratch scratch = new Scratch()) {
            Files.writeString(scratch.dir.resolve("Example.java"), program);
            String printed = "";
            for (String command : onlyBlock(readme, "sh").split("\n")) {
                Scratch.Ran ran = scratch.run(wordsOf(command, scratch.dir));
                check.due(command, ran.exit(), 0);
                printed += ran.printed();
            }
            check.same("the example", String.join("\n", printed.lines().toList()), String.join("\n", told));
        }
    }

    private static String onlyBlock(String readme, String language) {
        String fence = "```" + language + "\n";
        int start = readme.indexOf(fence);
        check.due("there is a block of " + language, start >= 0);
        check.due("there is only one block of " + language, readme.lastIndexOf(fence), start);
        int end = start < 0 ? -1 : readme.indexOf("```", start + fence.length());
        return end < 0 ? "" : readme.substring(start + fence.length(), end);
    }

    /** Every call of the example is said, and has its answer behind it. */
    private static List<String> toldAnswers(String program) {
        List<String> told = new ArrayList<>();
        for (String line : program.split("\n")) {
            if (CALLED.matcher(line).find()) {
                Matcher said = SAID.matcher(line);
                check.due("an answer stands behind" + line, said.matches());
                told.add(said.matches() ? said.group(1) : line);
            }
        }
        return told;
    }

    /** The command as README.md has it, but in a directory of its own. */
    private static List<String> wordsOf(String command, Path dir) {
        List<String> words = new ArrayList<>();
        for (String word : command.split(" ")) {
            boolean isBuild = word.equals("build") || word.startsWith("build/");
            words.add(isBuild ? dir + word.substring("build".length()) : word);
        }
        return words;
    }

    private static void everyCallIsNamed(String readme) throws IOException {
        Matcher signature = SIGNATURE.matcher(Files.readString(Path.of("../shared/DOC.md")));
        int calls = 0;
        while (signature.find()) {
            String call = signature.group(1).replace("int ", "");
            check.due("a row for " + call, readme.contains("\n| `" + call + "` | "));
            calls++;
        }
        check.due("calls of the document", calls, 30);
    }

    private static void everyTestIsNamed(String readme) throws IOException {
        for (String name : Scratch.testClasses()) {
            check.due(name + " is named", readme.contains("`" + name + "`"));
        }
    }
}
