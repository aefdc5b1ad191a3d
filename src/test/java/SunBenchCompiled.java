import java.io.File;
import java.io.IOException;
import java.io.PrintWriter;
import java.io.StringWriter;
import java.lang.reflect.Array;
import java.lang.reflect.Executable;
import java.lang.reflect.Field;
import java.lang.reflect.Modifier;
import java.net.URISyntaxException;
import java.nio.file.Files;
import java.nio.file.Path;
import java.util.ArrayList;
import java.util.HashSet;
import java.util.IdentityHashMap;
import java.util.LinkedHashMap;
import java.util.List;
import java.util.Map;
import java.util.Set;
import java.util.TreeSet;
import java.util.regex.Matcher;
import java.util.regex.Pattern;
import java.util.spi.ToolProvider;

/** Rules of LANGUAGE.md that can be seen in what the compiler made of the class: what it calls, makes and holds. */
public final class SunBenchCompiled {
    /** Rule 4, so far as the class needs it; a call that is not here is first looked up in the rule. */
    private static final Set<String> LIBRARY = Set.of("java/lang/Object.<init>:()V", "java/lang/Math.abs:(I)I",
        "java/lang/Math.max:(II)I", "java/lang/Math.min:(II)I", "java/lang/Integer.bitCount:(I)I",
        "java/lang/String.indexOf:(I)I", "java/lang/System.arraycopy:(Ljava/lang/Object;ILjava/lang/Object;II)V");
    private static final Set<String> NUMBERS = Set.of("I", "J", "S", "B", "C", "Z", "D", "F");
    private static final Set<String> MAKING = Set.of("new", "newarray", "anewarray", "multianewarray");
    private static final Set<String> RULED_OUT = Set.of("athrow", "monitorenter", "monitorexit", "invokedynamic", "jsr");
    /** The ASKS are the one thing that is told by itself; their depth is carried as an argument. */
    private static final Set<String> RECURSIVE = Set.of("SunBench$Asks.answer", "SunBench$Asks.give");
    private static final int MOST_PARAMETERS = 7, DEEPEST = 8, MOST_CLASSES = 12, MOST_FIELDS = 20;
    private static final int MOST_MADE = 120, MOST_HELD = 2000;

    private static final Pattern CODE = Pattern.compile("^ +\\d+: (\\w+)(.*)$");
    private static final Pattern CALL = Pattern.compile("// (?:Interface)?Method (.*)$");

    private static final Map<String, Set<String>> calls = new LinkedHashMap<>();
    private static int wrong = 0;

    private static void blame(int rule, String what) {
        wrong++;
        System.out.println("rule " + rule + ": " + what);
    }

    public static void main(String[] args) throws URISyntaxException, IllegalAccessException, IOException {
        face();
        List<Class<?>> all = classes();
        for (Class<?> c : all) {
            fields(c);
            readCode(c);
        }
        for (String method : calls.keySet()) {
            depths(method);
        }
        room();
        System.out.println(calls.size() + " methods, deepest " + deepest + ": "
            + (wrong == 0 ? "the rules are kept" : wrong + " rules are not kept"));
        if (wrong != 0) {
            System.exit(1);
        }
    }

    /** The face as the document writes it out, against what can be seen of the class; no more and no less. */
    private static void face() throws IllegalAccessException, IOException {
        String document = Files.readString(Path.of("../shared/DOC.md"));
        int begun = document.indexOf("```java");
        String told = document.substring(begun, document.indexOf("```", begun + 3));
        Set<String> due = new TreeSet<>();
        Matcher method = Pattern.compile("public (\\w+ )?(\\w+)\\((.*?)\\);").matcher(told);
        while (method.find()) {
            String returned = method.group(1) == null ? "" : method.group(1);
            due.add("public " + returned + method.group(2) + "(" + method.group(3).replaceAll(" \\w+(?=,|$)", "") + ")");
        }
        Matcher constant = Pattern.compile("(\\w+) = (-?\\d+)").matcher(told);
        while (constant.find()) {
            due.add("public static final int " + constant.group(1) + " = " + constant.group(2));
        }
        Set<String> shown = new TreeSet<>();
        List<Executable> bodies = new ArrayList<>(List.of(SunBench.class.getDeclaredConstructors()));
        bodies.addAll(List.of(SunBench.class.getDeclaredMethods()));
        for (Executable body : bodies) {
            if (!Modifier.isPrivate(body.getModifiers())) {
                shown.add(body.toString().replace("SunBench.", "").replace(",", ", "));
            }
        }
        for (Field f : SunBench.class.getDeclaredFields()) {
            if (!Modifier.isPrivate(f.getModifiers())) {
                shown.add(f.toString().replace("SunBench.", "") + " = " + f.get(null));
            }
        }
        if (due.size() != 42 || !due.equals(shown)) {
            blame(1, "the face is " + shown + ", due is " + due);
        }
        if (SunBench.class.getModifiers() != (Modifier.PUBLIC | Modifier.FINAL)) {
            blame(1, "the class is " + Modifier.toString(SunBench.class.getModifiers()));
        }
    }

    private static Path folder() throws URISyntaxException {
        return Path.of(SunBench.class.getProtectionDomain().getCodeSource().getLocation().toURI());
    }

    private static List<Class<?>> classes() throws URISyntaxException {
        List<Class<?>> all = new ArrayList<>(List.of(SunBench.class));
        all.addAll(List.of(SunBench.class.getDeclaredClasses()));
        Set<String> names = new TreeSet<>();
        for (Class<?> c : all) {
            names.add(c.getName() + ".class");
            if (c != SunBench.class && (!Modifier.isStatic(c.getModifiers()) || Modifier.isPublic(c.getModifiers())
                    || Modifier.isProtected(c.getModifiers()))) {
                blame(1, c + " is not static, or can be seen");
            }
            if (c.getSuperclass() != Object.class || c.getInterfaces().length != 0) {
                blame(6, c + " is of another class");
            }
        }
        Set<String> made = new TreeSet<>();
        File[] files = folder().toFile().listFiles();
        for (File file : files == null ? new File[0] : files) {
            if (file.getName().matches("SunBench(\\$.*)?\\.class")) {
                made.add(file.getName());
            }
        }
        if (!made.equals(names)) {
            blame(2, "there are classes that do not stand straight in the class: " + made);
        }
        if (all.size() > MOST_CLASSES) {
            blame(11, "there are " + all.size() + " classes");
        }
        return all;
    }

    private static void fields(Class<?> c) {
        int held = 0;
        for (Field f : c.getDeclaredFields()) {
            String type = f.getType().descriptorString();
            String bare = type.replace("[", "");
            int deep = type.length() - bare.length();
            boolean isOwn = bare.startsWith("LSunBench");
            boolean isText = bare.equals("Ljava/lang/String;");
            if (!NUMBERS.contains(bare) && !isOwn && !isText || deep > 2 || deep == 2 && !NUMBERS.contains(bare)) {
                blame(3, f + " is of another type");
            }
            if (!Modifier.isStatic(f.getModifiers())) {
                held++;
            } else if (!Modifier.isFinal(f.getModifiers()) || !type.matches("\\[?[IJCB]|Z|Ljava/lang/String;")) {
                blame(5, f + " is no constant");
            }
        }
        if (held > MOST_FIELDS) {
            blame(11, c + " has " + held + " fields");
        }
    }

    private static void readCode(Class<?> c) throws URISyntaxException {
        StringWriter out = new StringWriter();
        ToolProvider tool = ToolProvider.findFirst("javap").orElseThrow();
        tool.run(new PrintWriter(out), new PrintWriter(System.err), "-p", "-c", "-s", "-cp", folder().toString(),
            c.getName());
        String header = "";
        String method = "";
        for (String line : out.toString().split("\\R")) {
            Matcher code = CODE.matcher(line);
            if (line.startsWith("  ") && !line.startsWith("   ")) {
                header = line.trim();
            } else if (line.trim().startsWith("descriptor: ") && header.matches(".*\\).*;|static \\{\\};")) {
                method = nameOf(c, header) + ":" + line.trim().substring("descriptor: ".length());
                calls.put(method, new TreeSet<>());
                if (header.split(",").length > MOST_PARAMETERS) {
                    blame(11, method + " takes too many");
                }
            } else if (line.contains("Exception table")) {
                blame(6, method + " catches");
            } else if (code.matches()) {
                step(c, method, code.group(1), code.group(2));
            }
        }
    }

    private static String nameOf(Class<?> c, String header) {
        if (header.equals("static {};")) {
            return c.getName() + ".<clinit>";
        }
        String name = header.substring(0, header.indexOf('(')).replaceAll(".* ", "");
        return c.getName() + "." + (name.equals(c.getName()) ? "<init>" : name);
    }

    private static void step(Class<?> c, String method, String code, String rest) {
        boolean isMaker = method.contains("<init>") || method.contains("<clinit>");
        if (RULED_OUT.contains(code)) {
            blame(6, method + " has " + code);
        }
        if (MAKING.contains(code) && !isMaker) {
            blame(12, method + " makes an object: " + rest);
        }
        if (code.equals("putstatic") && !isMaker) {
            blame(5, method + " changes what is static: " + rest);
        }
        if (code.equals("getstatic") && rest.contains("java/")) {
            blame(4, method + " takes what is not in the rule: " + rest);
        }
        if ((code.equals("instanceof") || code.equals("checkcast")) && !rest.contains("SunBench")) {
            blame(6, method + " casts to another class: " + rest);
        }
        Matcher call = CALL.matcher(rest);
        if (!code.startsWith("invoke") || !call.find()) {
            return;
        }
        String called = call.group(1).replace("\"", "");
        String owned = called.substring(0, called.indexOf(':')).contains(".") ? called : c.getName() + "." + called;
        if (!owned.startsWith("SunBench") && !LIBRARY.contains(owned)) {
            blame(4, method + " calls what is not in the rule: " + owned);
        }
        calls.get(method).add(owned);
    }

    private static int deepest = 0;

    /** How many calls stand open at once, the library's too; the ASKS, once each. */
    private static void depths(String method) {
        int depth = depthOf(method, new HashSet<>());
        deepest = Math.max(deepest, depth);
        if (depth > DEEPEST) {
            blame(11, method + " goes " + depth + " deep");
        }
    }

    private static int depthOf(String method, Set<String> open) {
        if (!open.add(method)) {
            if (!RECURSIVE.contains(method.substring(0, method.indexOf(':')))) {
                blame(8, method + " calls itself");
            }
            return 0;
        }
        int most = 0;
        for (String called : calls.getOrDefault(method, Set.of())) {
            most = Math.max(most, depthOf(called, open));
        }
        open.remove(method);
        return most + 1;
    }

    /** Rule 12: what an object is made of, all that it will ever be, as no call makes anything. */
    private static void room() throws IllegalAccessException {
        Map<Object, Boolean> seen = new IdentityHashMap<>();
        int[] counts = new int[2];
        count(new SunBench(), seen, counts);
        if (counts[0] > MOST_MADE || counts[1] > MOST_HELD) {
            blame(12, "an object is made of " + counts[0] + " objects with " + counts[1] + " fields and elements");
        }
    }

    private static void count(Object o, Map<Object, Boolean> seen, int[] counts) throws IllegalAccessException {
        if (o == null || seen.put(o, true) != null) {
            return;
        }
        counts[0]++;
        if (o.getClass().isArray()) {
            int length = Array.getLength(o);
            counts[1] += length;
            for (int i = 0; i < length && !o.getClass().getComponentType().isPrimitive(); i++) {
                count(Array.get(o, i), seen, counts);
            }
            return;
        }
        for (Field f : o.getClass().getDeclaredFields()) {
            if (!Modifier.isStatic(f.getModifiers())) {
                counts[1]++;
                f.setAccessible(true);
                if (!f.getType().isPrimitive()) {
                    count(f.get(o), seen, counts);
                }
            }
        }
    }
}
