import java.io.IOException;
import java.nio.file.Files;
import java.nio.file.Path;
import java.util.ArrayList;
import java.util.List;
import java.util.Set;
import java.util.regex.Matcher;
import java.util.regex.Pattern;

/**
 * "An object is used for at most 512 calls after it has been made; what later calls answer is
 * free": so no test may ask one for more. All tests run again on a class that counts its calls.
 */
public final class CallsTest {
    private static final int PROMISED = 512, CALLS = 30;
    private static final String HEAD = "public final class DeltaLadders {\n";
    private static final Pattern CALL = Pattern.compile("(?m)^    public (?:int|long) \\w+\\([^)]*\\) \\{$");
    private static final String COUNTER = """
            private int calls = 0;
            private void countCall() {
                calls++;
                if (calls > %d) {
                    new Throwable("an object is asked too often").printStackTrace();
                    System.exit(1);
                }
            }
        """.formatted(PROMISED);
    /** They ask no object, or would run themselves again. */
    private static final Set<String> LEFT_OUT = Set.of("CallsTest", "FaceTest", "ReadmeTest");
    private static final Check check = new Check();

    public static void main(String[] args) throws IOException, InterruptedException {
        try (Scratch scratch = new Scratch()) {
            compile(scratch);
            for (String name : Scratch.testClasses()) {
                if (name.endsWith("Test") && !LEFT_OUT.contains(name)) {
                    Scratch.Ran ran = scratch.run(List.of("java", "-cp", scratch.dir.toString(), name));
                    check.due(name + " with calls counted", ran.exit(), 0);
                }
            }
        }
        check.end("CallsTest");
    }

    private static void compile(Scratch scratch) throws IOException, InterruptedException {
        Path counting = scratch.dir.resolve("DeltaLadders.java");
        Files.writeString(counting, counting(Files.readString(Path.of("src/main/java/DeltaLadders.java"))));
        List<String> command = new ArrayList<>(List.of("javac", "-d", scratch.dir.toString(), counting.toString()));
        for (String name : Scratch.testClasses()) {
            command.add("src/test/java/" + name + ".java");
        }
        check.due("the counting class compiles", scratch.run(command).exit(), 0);
    }

    private static String counting(String source) {
        Matcher call = CALL.matcher(source);
        check.due("calls that are counted", call.results().count(), CALLS);
        check.due("there is a head", source.contains(HEAD));
        return call.replaceAll("$0 countCall();").replace(HEAD, HEAD + COUNTER);
    }
}
