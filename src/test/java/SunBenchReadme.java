import java.io.IOException;
import java.lang.reflect.Method;
import java.lang.reflect.Modifier;
import java.nio.file.Files;
import java.nio.file.Path;
import java.util.HashMap;
import java.util.HashSet;
import java.util.Map;
import java.util.Set;
import java.util.regex.Matcher;
import java.util.regex.Pattern;

/** Every answer that README.md tells, asked in the order of the page; run from the project's folder. */
public final class SunBenchReadme {
    private static final Pattern MADE = Pattern.compile("SunBench (\\w+) = new SunBench\\(\\);");
    private static final Pattern FED = Pattern.compile("feed\\((\\w+), \"(.*?)\"\\);.*");
    private static final Pattern CALL = Pattern.compile("(\\w+)\\.(\\w+)\\((.*?)\\); +// (-?\\d+)(?:  .*)?");
    private static final Map<String, SunBench> objects = new HashMap<>();
    private static final Set<String> shown = new HashSet<>();
    private static int wrong = 0;
    private static int right = 0;

    public static void main(String[] args) throws IOException, ReflectiveOperationException {
        boolean isCode = false;
        int number = 0;
        for (String line : Files.readAllLines(Path.of("README.md"))) {
            number++;
            if (line.startsWith("```")) {
                isCode = line.equals("```java");
            } else if (isCode && !line.isBlank()) {
                ask(number, line);
            }
        }
        for (Method m : SunBench.class.getDeclaredMethods()) {
            if (Modifier.isPublic(m.getModifiers()) && !shown.contains(m.getName())) {
                System.out.println("README.md does not show " + m.getName());
                wrong++;
            }
        }
        System.out.println(right + " answers of README.md as due, " + wrong + " not");
        if (wrong != 0) {
            System.exit(1);
        }
    }

    private static void ask(int number, String line) throws ReflectiveOperationException {
        Matcher made = MADE.matcher(line);
        Matcher fed = FED.matcher(line);
        Matcher call = CALL.matcher(line);
        if (made.matches()) {
            objects.put(made.group(1), new SunBench());
        } else if (fed.matches()) {
            for (char c : fed.group(2).toCharArray()) {
                objects.get(fed.group(1)).feed(c);
            }
        } else if (call.matches()) {
            long got = answer(objects.get(call.group(1)), call.group(2), call.group(3));
            if (got == Long.parseLong(call.group(4))) {
                right++;
            } else {
                wrong++;
                System.out.println("README.md, line " + number + ": " + line + " answered " + got);
            }
        } else {
            wrong++;
            System.out.println("README.md, line " + number + " cannot be asked: " + line);
        }
    }

    private static long answer(SunBench x, String name, String with) throws ReflectiveOperationException {
        String[] words = with.isEmpty() ? new String[0] : with.split(", ");
        Class<?>[] types = new Class<?>[words.length];
        Object[] numbers = new Object[words.length];
        for (int i = 0; i < words.length; i++) {
            types[i] = int.class;
            numbers[i] = words[i].startsWith("'") ? words[i].charAt(1) : Integer.parseInt(words[i]);
        }
        shown.add(name);
        return ((Number) SunBench.class.getMethod(name, types).invoke(x, numbers)).longValue();
    }
}
