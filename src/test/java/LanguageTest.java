import java.lang.reflect.Field;
import java.lang.reflect.Method;
import java.lang.reflect.Modifier;
import java.nio.charset.StandardCharsets;
import java.nio.file.Files;
import java.nio.file.Path;
import java.util.ArrayList;
import java.util.HashSet;
import java.util.List;
import java.util.Set;
import java.util.TreeSet;

/** Rules of LANGUAGE.md that can be looked up in the source, or in the class, and the document's face. */
public final class LanguageTest {
    private static final Path SOURCE = Path.of("src/main/java/KeyOrchard.java");
    private static final String[] FORBIDDEN = {"throw", "throws", "try", "catch", "finally", "synchronized", "assert",
        "protected", "var", "volatile", "transient", "native", "System.out", "System.err", "System.nanoTime",
        "System.currentTimeMillis", "Random", "Thread", "Object", "hashCode", "toString", "lambda", "yield"};
    private static final String[] FORBIDDEN_SIGNS = {"->", "::", "@", "static {", "Exact("};
    private static final Set<String> IMPORTS = Set.of("java.util.Arrays", "java.util.ArrayList", "java.util.List",
        "java.util.Iterator");
    private static final String[] FACE = {"int orchard(int,int,int,int)", "int ofTree(int,int)",
        "int ofPrisoner(int,int)", "int rain(int,int)", "int water(int,int)", "int frost(int,boolean)",
        "int crow(int,int)", "int shoo(int)", "int fell(int,boolean)", "int out(int)", "int by(int)", "int free(int)",
        "int has(int,int)", "int least(int,int,int)", "int most(int,int,int)", "int saws(int,int)", "int worth(int)",
        "long odds(int,int,int)", "int green(int,int)", "int reading(int,int,boolean)", "int back(int)",
        "int thief(int)", "int sheet(int,int,int)", "int lose(int)", "int put(int,int,int)", "long cell(int,int,int)",
        "int copy(int,int,int,int,int)", "int tell(int)", "int shake(int)", "int as(int,int)", "int trace()",
        "int fault()", "int many(int)"};
    private static final int MAX_CLASSES = 12, MAX_FIELDS = 20, MAX_PARAMETERS = 7, MAX_LINES = 60;

    private static final List<String> wrong = new ArrayList<>();

    private LanguageTest() {
    }

    public static void main(String[] args) throws Exception {
        String source = Files.readString(SOURCE, StandardCharsets.US_ASCII);
        String code = withoutComments(source);
        words(code);
        methodLengths(code);
        face();
        classes();
        for (String w : wrong) {
            System.out.println(w);
        }
        System.out.println(wrong.isEmpty() ? "the language is kept" : wrong.size() + " rules are broken");
        if (!wrong.isEmpty()) {
            System.exit(1);
        }
    }

    private static String withoutComments(String source) {
        return source.replaceAll("(?s)/\\*.*?\\*/", "").replaceAll("//[^\n]*", "").replaceAll("'.'", "' '");
    }

    private static void words(String code) {
        for (String word : FORBIDDEN) {
            if (code.matches("(?s).*\\b" + word.replace(".", "\\.") + "\\b.*")) {
                wrong.add("the word " + word);
            }
        }
        for (String sign : FORBIDDEN_SIGNS) {
            if (code.contains(sign)) {
                wrong.add("the sign " + sign);
            }
        }
        for (String line : code.split("\n")) {
            if (line.startsWith("package")) {
                wrong.add(line);
            }
            if (line.startsWith("import ") && !IMPORTS.contains(line.substring(7, line.length() - 1))) {
                wrong.add(line);
            }
            if (line.contains("\"")) {
                wrong.add("a text: " + line);
            }
        }
    }

    /** A method opens a line that ends with ") {" where members stand. */
    private static void methodLengths(String code) {
        String[] lines = code.split("\n");
        int start = -1;
        String indent = "";
        for (int i = 0; i < lines.length; i++) {
            String head = lines[i].strip();
            boolean member = lines[i].matches("( {4}| {8})[a-zA-Z].*\\) \\{") && !head.matches("(if|for|while|switch).*");
            if (start < 0 && member) {
                start = i;
                indent = lines[i].substring(0, lines[i].indexOf(head));
            }
            if (start >= 0 && lines[i].equals(indent + "}")) {
                if (i - start + 1 > MAX_LINES) {
                    wrong.add("a long method: " + lines[start]);
                }
                start = -1;
            }
        }
    }

    private static void face() throws ReflectiveOperationException {
        Set<String> due = new TreeSet<>(List.of(FACE));
        Set<String> there = new TreeSet<>();
        Set<String> publicNames = new HashSet<>();
        List<String> otherNames = new ArrayList<>();
        for (Method m : KeyOrchard.class.getDeclaredMethods()) {
            List<String> parameters = new ArrayList<>();
            for (Class<?> p : m.getParameterTypes()) {
                parameters.add(p.getName());
            }
            if (Modifier.isPublic(m.getModifiers())) {
                there.add(m.getReturnType().getName() + " " + m.getName() + "(" + String.join(",", parameters) + ")");
                publicNames.add(m.getName());
            } else {
                otherNames.add(m.getName());
                if (!Modifier.isPrivate(m.getModifiers())) {
                    wrong.add("not private: " + m);
                }
            }
        }
        if (!due.equals(there)) {
            wrong.add("the face is " + there);
        }
        for (Class<?> c : KeyOrchard.class.getDeclaredClasses()) {
            for (Method m : c.getDeclaredMethods()) {
                otherNames.add(m.getName());
            }
        }
        for (String name : otherNames) {
            if (publicNames.contains(name)) {
                wrong.add("the name of a public method: " + name);
            }
        }
        Set<String> constants = new TreeSet<>();
        for (Field f : KeyOrchard.class.getDeclaredFields()) {
            if (Modifier.isPublic(f.getModifiers())) {
                constants.add(f.getType().getName() + " " + f.getName());
            } else if (!Modifier.isPrivate(f.getModifiers())) {
                wrong.add("not private: " + f);
            }
        }
        Set<String> dueConstants = new TreeSet<>(List.of("int UNKNOWN", "int OUTSIDE", "int STATE", "int FULL",
            "int NONE", "long LOST"));
        if (!constants.equals(dueConstants)) {
            wrong.add("the constants are " + constants);
        }
        if (KeyOrchard.class.getConstructors().length != 1 || KeyOrchard.class.getDeclaredConstructors().length != 1
            || KeyOrchard.class.getConstructor() == null || !Modifier.isFinal(KeyOrchard.class.getModifiers())) {
            wrong.add("the class, or its constructor");
        }
    }

    private static void classes() {
        List<Class<?>> all = new ArrayList<>(List.of(KeyOrchard.class.getDeclaredClasses()));
        all.add(KeyOrchard.class);
        if (all.size() > MAX_CLASSES) {
            wrong.add(all.size() + " classes");
        }
        for (Class<?> c : all) {
            if (c != KeyOrchard.class && (!Modifier.isStatic(c.getModifiers()) || Modifier.isPublic(c.getModifiers()))) {
                wrong.add("not static, or public: " + c);
            }
            int fields = 0;
            for (Field f : c.getDeclaredFields()) {
                if (!Modifier.isStatic(f.getModifiers())) {
                    fields++;
                } else if (!Modifier.isFinal(f.getModifiers())) {
                    wrong.add("static and not final: " + f);
                }
            }
            if (fields > MAX_FIELDS) {
                wrong.add(fields + " fields in " + c);
            }
            for (Method m : c.getDeclaredMethods()) {
                if (m.getParameterCount() > MAX_PARAMETERS) {
                    wrong.add("parameters of " + m);
                }
            }
        }
    }
}
