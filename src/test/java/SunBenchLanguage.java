import java.io.IOException;
import java.lang.reflect.Method;
import java.lang.reflect.Modifier;
import java.nio.file.Files;
import java.nio.file.Path;
import java.util.List;
import java.util.regex.Pattern;

/** Rules of LANGUAGE.md that can be seen in the text, or in the class; run from the project's folder. */
public final class SunBenchLanguage {
    private static final String[] FORBIDDEN = {"\\bthrow\\b", "\\bthrows\\b", "\\btry\\b", "\\bcatch\\b",
        "\\bsynchronized\\b", "\\bassert\\b", "->", "::", "^import\\b", "^package\\b", "Exact\\b", "\\bObject\\b",
        "\\bhashCode\\b", "\\btoString\\b", "while \\(true\\)", "for \\(;;\\)", "\\bstatic \\{", "\\bprotected\\b",
        "System\\.(?!arraycopy)", "\\bThread\\b", "\\bRandom\\b"};
    private static final int LONGEST = 60;
    private static int wrong = 0;

    private static void blame(String what) {
        wrong++;
        System.out.println(what);
    }

    public static void main(String[] args) throws IOException {
        List<String> lines = Files.readAllLines(Path.of("src/main/java/SunBench.java"));
        int begun = 0;
        for (int i = 0; i < lines.size(); i++) {
            String line = lines.get(i);
            String code = line.replaceAll("\"[^\"]*\"", "\"\"").replaceAll("//.*|/\\*\\*.*", "").strip();
            for (String word : FORBIDDEN) {
                if (Pattern.compile(word).matcher(code).find()) {
                    blame("line " + (i + 1) + " has " + word + ": " + line);
                }
            }
            // What is made once, with the object, never fills the room.
            if (code.contains("new ") && !code.matches("(private )?final \\S+ \\w+ = new .*;")) {
                blame("line " + (i + 1) + " makes an object in a call: " + line);
            }
            if (code.matches(".*\\bstatic\\b.*=.*;") && !code.contains("final")) {
                blame("line " + (i + 1) + " is static and not final: " + line);
            }
            if (code.endsWith(") {") && code.matches("(public|private|static|int|long|boolean|void|Bench)\\b.*")) {
                begun = i;
            }
            if (i - begun == LONGEST && !code.isEmpty() && line.startsWith("        ")) {
                blame("line " + (begun + 1) + " begins a method that is too long");
            }
        }
        classes();
        System.out.println(wrong == 0 ? "the rules are kept" : wrong + " rules are not kept");
        if (wrong != 0) {
            System.exit(1);
        }
    }

    private static void classes() {
        Class<?>[] inside = SunBench.class.getDeclaredClasses();
        if (inside.length > 12) {
            blame("more than twelve classes");
        }
        for (Class<?> c : inside) {
            if (!Modifier.isStatic(c.getModifiers())) {
                blame(c + " is not static");
            }
        }
        for (Method shown : SunBench.class.getMethods()) {
            if (shown.getDeclaringClass() != SunBench.class) {
                continue;
            }
            for (Class<?> c : inside) {
                for (Method hidden : c.getDeclaredMethods()) {
                    if (hidden.getName().equals(shown.getName())) {
                        blame(hidden + " bears a public name");
                    }
                }
            }
            for (Method hidden : SunBench.class.getDeclaredMethods()) {
                if (hidden.getName().equals(shown.getName()) && !Modifier.isPublic(hidden.getModifiers())) {
                    blame(hidden + " bears a public name");
                }
            }
        }
    }
}
