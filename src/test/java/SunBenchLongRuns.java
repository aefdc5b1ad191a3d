import java.lang.reflect.InvocationTargetException;
import java.lang.reflect.Method;
import java.lang.reflect.Modifier;
import java.util.ArrayList;
import java.util.Arrays;
import java.util.Comparator;
import java.util.List;
import java.util.Random;

/**
 * Runs of 512 calls on one object with arguments of any kind, in which no call may throw or fail to end; the same
 * calls on another object, with other objects used in between, must answer the same.
 */
public final class SunBenchLongRuns {
    private static final int CALLS = 512, WILD_RUNS = 1200;
    private static final long MOST_MILLIS = 240_000, MOST_NANOS_A_CALL = 5_000_000_000L;
    private static final int[] FAR_ENDS = {Integer.MIN_VALUE, Integer.MIN_VALUE + 1, Integer.MAX_VALUE,
        Integer.MAX_VALUE - 1, Integer.MAX_VALUE - 39, -1000000, -1000001, -1000013, 999999, 1000000, 65536, 1 << 30};
    /** Every number of the document at which something begins or ends, with those beside it. */
    private static final int[] ENDS = {0, 1, 2, 5, 6, 7, 8, 9, 10, 11, 12, 13, 16, 23, 24, 25, 39, 40, 41, 59, 60, 61,
        97, 99, 100, 127, 128, 255, 256, 998, 999, 1000};
    private static final String[] TEXTS = {"b0,9;s0,1;n0,1;a0,1;b0,1;d0,1;s0,1;n0,1;", "b12,3;s10,2;n11,1;d12,3;",
        "b0,0;b0,1;", "b23,9;a23,9;a22,9;a21,9;a20,9;a19,9;a18,9;a17,9;", "b5,4;n5,1;n5,2;d5,3;d5,4;n6,5;d4,6;",
        "b0,9;d0,9;d1,9;d2,9;d3,9;d4,9;d5,9;d6,9;d7,9;", "b12,3;", "b", "b999", "b0,1;s24,1;", "\u00ff\u0000",
        "b0,1;s0,1;".repeat(10)};

    private static final List<Method> METHODS = methods();
    private static int wrong = 0;
    private static long asked = 0;
    private static volatile String latest = "";
    private static volatile boolean isThrough = false;

    private static List<Method> methods() {
        List<Method> all = new ArrayList<>();
        for (Method m : SunBench.class.getDeclaredMethods()) {
            if (Modifier.isPublic(m.getModifiers())) {
                all.add(m);
            }
        }
        // The order in which the class tells its methods is not promised, and the draws go by it.
        all.sort(Comparator.comparing(Method::getName));
        return all;
    }

    private static Method named(String name) {
        for (Method m : METHODS) {
            if (m.getName().equals(name)) {
                return m;
            }
        }
        throw new IllegalStateException(name);
    }

    public static void main(String[] args) throws InterruptedException {
        Thread runs = new Thread(SunBenchLongRuns::allRuns);
        runs.setDaemon(true);
        runs.start();
        runs.join(MOST_MILLIS);
        if (!isThrough) {
            wrong++;
            System.out.println("did not end: " + latest);
        }
        System.out.println(asked + " calls, " + wrong + " wrong");
        if (wrong != 0 || asked == 0) {
            System.exit(1);
        }
    }

    private static void allRuns() {
        for (int run = 0; run < WILD_RUNS && wrong < 20; run++) {
            twice(wild(new Random(run)));
        }
        for (String text : TEXTS) {
            for (Method m : METHODS) {
                twice(steady(text, m));
            }
        }
        twice(dearest("whenToCome", new int[] {0, 40, 1}, "leave 0"));
        twice(dearest("whenToCome", new int[] {6, 40, 0}, "leave 6"));
        twice(dearest("leastSnuff", new int[] {6, 60, 60}, ""));
        twice(dearest("late", new int[] {6, 7, 0}, ""));
        twice(dearest("sunny", new int[] {6}, ""));
        twice(dearest("hours", new int[] {24}, ""));
        isThrough = true;
    }

    // ---- what a run is

    private record Call(Method method, Object[] with) {
        @Override
        public String toString() {
            return method.getName() + Arrays.toString(with);
        }
    }

    private static Call call(String name, int... with) {
        return new Call(named(name), Arrays.stream(with).boxed().toArray());
    }

    private static void tell(List<Call> run, String text) {
        for (char c : text.toCharArray()) {
            run.add(call("feed", c));
        }
        run.add(call("bench"));
    }

    /** A text that is mostly one, and calls of any name with numbers of any kind. */
    private static List<Call> wild(Random r) {
        List<Call> run = new ArrayList<>();
        while (run.size() < CALLS) {
            if (r.nextInt(60) == 0 || run.isEmpty() && r.nextInt(4) != 0) {
                tell(run, TEXTS[r.nextInt(TEXTS.length)]);
                continue;
            }
            Method m = METHODS.get(r.nextInt(METHODS.size()));
            Object[] with = new Object[m.getParameterCount()];
            int wildness = r.nextInt(3);
            for (int i = 0; i < with.length; i++) {
                with[i] = number(r, wildness);
            }
            run.add(new Call(m, with));
        }
        return run.subList(0, CALLS);
    }

    private static int number(Random r, int wildness) {
        if (wildness == 0) {
            return r.nextInt(8);
        }
        switch (r.nextInt(wildness == 1 ? 5 : 8)) {
            case 0: return ENDS[r.nextInt(ENDS.length)];
            case 1: return r.nextInt(61);
            case 5: return FAR_ENDS[r.nextInt(FAR_ENDS.length)];
            case 6: return r.nextInt();
            case 7: return -1 - r.nextInt(3);
            default: return r.nextInt(8);
        }
    }

    /** One call again and again, as far as it goes and farther. */
    private static List<Call> steady(String text, Method m) {
        List<Call> run = new ArrayList<>();
        tell(run, text);
        int k = 0;
        while (run.size() < CALLS) {
            Object[] with = new Object[m.getParameterCount()];
            for (int i = 0; i < with.length; i++) {
                with[i] = (k + i) % 7 == 6 ? FAR_ENDS[k % FAR_ENDS.length] : ENDS[(k / (1 + 4 * i)) % ENDS.length];
            }
            run.add(new Call(m, with));
            k++;
        }
        return run.subList(0, CALLS);
    }

    private static List<Call> dearest(String name, int[] with, String ahead) {
        List<Call> run = new ArrayList<>();
        tell(run, TEXTS[0]);
        if (!ahead.isEmpty()) {
            run.add(call(ahead.split(" ")[0], Integer.parseInt(ahead.split(" ")[1])));
        }
        while (run.size() < CALLS) {
            run.add(call(name, with));
        }
        return run;
    }

    // ---- what is compared

    private static void twice(List<Call> run) {
        SunBench first = new SunBench();
        SunBench again = new SunBench();
        SunBench between = new SunBench();
        for (int k = 0; k < run.size(); k++) {
            long answer = answerOf(first, run, k);
            // Another object, at another call of its run: what the class shares would show here.
            answerOf(between, run, run.size() - 1 - k);
            long same = answerOf(again, run, k);
            if (answer != same) {
                wrong++;
                System.out.println("answered " + answer + ", then " + same + ": " + run.get(k) + " as call " + (k + 1));
                return;
            }
            // An ITEM may be any number.
            if ((answer < -1000200 || answer > 10_000_000) && !run.get(k).method.getName().equals("set")) {
                wrong++;
                System.out.println("answered " + answer + ", which nothing is: " + run.get(k) + " as call " + (k + 1));
                return;
            }
        }
    }

    private static long answerOf(SunBench x, List<Call> run, int k) {
        Call call = run.get(k);
        latest = call + " as call " + (k + 1);
        asked++;
        long begun = System.nanoTime();
        try {
            Object answer = call.method.invoke(x, call.with);
            if (System.nanoTime() - begun > MOST_NANOS_A_CALL) {
                wrong++;
                System.out.println("took long: " + latest);
            }
            return ((Number) answer).longValue();
        } catch (InvocationTargetException e) {
            wrong++;
            System.out.println("threw " + e.getCause() + ": " + latest + " of " + run.subList(0, k));
            return Long.MIN_VALUE;
        } catch (IllegalAccessException e) {
            throw new IllegalStateException(e);
        }
    }
}
