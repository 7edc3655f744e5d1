import java.io.IOException;
import java.lang.reflect.Method;
import java.lang.reflect.Modifier;
import java.nio.charset.StandardCharsets;
import java.nio.file.Files;
import java.nio.file.Path;
import java.util.ArrayList;
import java.util.List;
import java.util.Set;
import java.util.TreeSet;
import java.util.regex.Matcher;
import java.util.regex.Pattern;

/**
 * Prints a program of README.md's java blocks, in which each call is held against the answer that its
 * line tells. The page itself is read, so that it can't tell what the class doesn't answer.
 */
public final class ReadmeCalls {
    private static final Pattern CALL = Pattern.compile("(\\s*)((?:x|new KeyOrchard\\(\\))\\.(\\w+)\\(.*\\));(.*)");
    private static final Pattern ANSWER = Pattern.compile("\\s*// (-?\\w+): .+");

    private final List<String> program = new ArrayList<>();
    private final List<String> wrong = new ArrayList<>();
    private final Set<String> shown = new TreeSet<>();

    private ReadmeCalls() {
    }

    public static void main(String[] args) throws IOException {
        ReadmeCalls calls = new ReadmeCalls();
        calls.read(Files.readAllLines(Path.of(args[0]), StandardCharsets.US_ASCII));
        calls.compareWithFace();
        for (String w : calls.wrong) {
            System.err.println(args[0] + ": " + w);
        }
        if (!calls.wrong.isEmpty()) {
            System.exit(1);
        }
        calls.print();
    }

    private void read(List<String> page) {
        boolean isJava = false;
        for (String line : page) {
            if (line.startsWith("```")) {
                isJava = !isJava && line.equals("```java");
            } else if (isJava) {
                take(line);
            }
        }
        if (isJava) {
            wrong.add("the last block has no end");
        }
    }

    private void take(String line) {
        Matcher call = CALL.matcher(line);
        if (!call.matches()) {
            if (line.contains("x.")) {
                wrong.add("a call that is not on a line of its own: " + line);
            }
            program.add(line);
            return;
        }
        Matcher answer = ANSWER.matcher(call.group(4));
        if (!answer.matches()) {
            wrong.add("a call that tells no answer: " + line);
            return;
        }
        shown.add(call.group(3));
        program.add(call.group(1) + "due(" + call.group(2) + ", " + inJava(answer.group(1)) + ", \""
            + call.group(2).replace("\"", "\\\"") + "\");");
    }

    private static String inJava(String answer) {
        return answer.matches("[A-Z]+") ? "KeyOrchard." + answer : answer;
    }

    private void compareWithFace() {
        for (Method m : KeyOrchard.class.getDeclaredMethods()) {
            if (Modifier.isPublic(m.getModifiers()) && !shown.contains(m.getName())) {
                wrong.add("no call of " + m.getName());
            }
        }
    }

    private void print() {
        System.out.println("public final class ReadmeRun extends Checks {");
        System.out.println("    public static void main(String[] args) {");
        System.out.println("        says(\"README.md\");");
        for (String line : program) {
            System.out.println("        " + line);
        }
        System.out.println("        end(\"the calls of README.md answer as it tells\");");
        System.out.println("    }");
        System.out.println("}");
    }
}
