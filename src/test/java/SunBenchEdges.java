import java.lang.reflect.Field;
import java.lang.reflect.Method;
import java.util.ArrayList;
import java.util.List;

/**
 * Each sentence of the document that names an end: the last number that is taken and the first that is refused
 * on either side, the empty and the full case, the wrap-around; and behind every call that is refused, or that
 * only looks, a twin object that was never asked must answer all that can be asked in the same way.
 */
public final class SunBenchEdges {
    private static final int NONE = -1000000, BAD = -1000001, STATE = -1000002, FULL = -1000003;
    private static final int NULL = -1000011, PLACE = -1000012, KIND = -1000013, SIZE = -1000014, STORE = -1000015;
    private static final int MIN = Integer.MIN_VALUE, MAX = Integer.MAX_VALUE;
    private static final int MOST_CALLS = 512;

    private static int promise = 0;
    private static int wrong = 0;
    private static int right = 0;

    // ---- setups: calls, one a line

    /** Three go, or went; all that an object holds is there: rows, bytes, a fault, images, acts, a trace, a finding. */
    private static final String RICH = """
        told b0,3;s0,2;b1,1;n2,2;a3,9;d4,1;
        image 1
        row 0 0 4
        set 0 0 3
        set 0 1 4
        set 0 2 5
        set 0 3 7
        row 7 0 40
        set 7 0 4
        set 7 39 6
        row 1 1 3
        set 1 2 2
        row 2 2 0
        text b24
        bench
        text b1,
        ask 2 0
        hours 4
        snuff 4
        june 1
        image 0
        hours 1
        leave 1
        snuff 2
        drop 6
        """;

    /** A bench of one. */
    private static final String ONE = "told b0,1;b0,1;\n";

    private static final String SEVEN = "told b0,0;b0,1;b0,1;b0,1;b0,1;b0,1;b0,1;b0,1;\n";

    private static String times(int n, String calls) {
        return calls.repeat(n);
    }

    // ---- calls as words

    private static final class Run {
        private final SunBench x = new SunBench();
        private int calls = 0;

        Run(String setup) {
            for (String line : setup.split("\n")) {
                if (!line.isBlank()) {
                    call(line.trim());
                }
            }
        }

        long call(String line) {
            String[] words = line.split(" ");
            if (words[0].equals("text") || words[0].equals("told")) {
                for (char c : words[1].toCharArray()) {
                    calls++;
                    x.feed(c);
                }
                return words[0].equals("told") ? call("bench") : 0;
            }
            calls++;
            if (calls > MOST_CALLS) {
                throw new IllegalStateException("a test asks more than is promised: " + line);
            }
            int[] a = new int[5];
            for (int i = 1; i < words.length; i++) {
                a[i - 1] = (int) number(words[i]);
            }
            return words.length > 3 ? three(words[0], a) : two(words[0], a);
        }

        private long three(String name, int[] a) {
            switch (name) {
                case "row": return x.row(a[0], a[1], a[2]);
                case "set": return x.set(a[0], a[1], a[2]);
                case "copy": return x.copy(a[0], a[1], a[2], a[3], a[4]);
                case "ahead": return x.ahead(a[0], a[1], a[2]);
                case "leastSnuff": return x.leastSnuff(a[0], a[1], a[2]);
                case "whenToCome": return x.whenToCome(a[0], a[1], a[2]);
                case "rang": return x.rang(a[0], a[1], a[2]);
                case "who": return x.who(a[0], a[1], a[2], a[3]);
                case "wager": return x.wager(a[0], a[1], a[2]);
                case "late": return x.late(a[0], a[1], a[2]);
                case "drawn": return x.drawn(a[0], a[1], a[2]);
                default: throw new IllegalStateException(name);
            }
        }

        private long two(String name, int[] a) {
            switch (name) {
                case "drop": return x.drop(a[0]);
                case "feed": return x.feed(a[0]);
                case "bench": return x.bench();
                case "fault": return x.fault();
                case "undo": return x.undo();
                case "hours": return x.hours(a[0]);
                case "snuff": return x.snuff(a[0]);
                case "leave": return x.leave(a[0]);
                case "come": return x.come(a[0]);
                case "june": return x.june(a[0]);
                case "man": return x.man(a[0], a[1]);
                case "place": return x.place(a[0]);
                case "sun": return x.sun(a[0]);
                case "sunny": return x.sunny(a[0]);
                case "most": return x.most(a[0], a[1]);
                case "elm": return x.elm(a[0]);
                case "lasts": return x.lasts();
                case "calls": return x.calls(a[0]);
                case "image": return x.image(a[0]);
                case "restore": return x.restore(a[0]);
                case "kind": return x.kind(a[0]);
                case "as": return x.as(a[0], a[1]);
                case "ask": return x.ask(a[0], a[1]);
                case "trace": return x.trace(a[0]);
                case "count": return x.count(a[0]);
                case "status": return x.status();
                default: throw new IllegalStateException(name);
            }
        }
    }

    private static long number(String word) {
        switch (word) {
            case "NONE": return NONE;
            case "BAD": return BAD;
            case "STATE": return STATE;
            case "FULL": return FULL;
            case "NULL": return NULL;
            case "PLACE": return PLACE;
            case "KIND": return KIND;
            case "SIZE": return SIZE;
            case "STORE": return STORE;
            case "MIN": return MIN;
            case "MAX": return MAX;
            default: return Long.parseLong(word);
        }
    }

    // ---- what is compared

    private static void due(String what, long got, long want) {
        if (got == want) {
            right++;
            return;
        }
        wrong++;
        if (wrong < 60) {
            System.out.println("promise " + promise + ": " + what + " answered " + got + ", due is " + want);
        }
    }

    /** Each row "call = answer" on a new object of its own; what must change nothing is compared with a twin. */
    private static void each(String setup, String rows) {
        for (String row : rows.split("\n")) {
            if (!row.isBlank()) {
                String[] sides = row.trim().split(" = ");
                long want = number(sides[1].split(" ")[0]);
                asked(setup, sides[0], want);
            }
        }
    }

    private static void asked(String setup, String call, long want) {
        long got = new Run(setup).call(call);
        due(call, got, want);
        if (changesNothing(call, got)) {
            sameAsTwin(setup, call, got);
        }
    }

    /** The rows one behind the other on one object. */
    private static void run(String setup, String rows) {
        Run x = new Run(setup);
        for (String row : rows.split("\n")) {
            if (!row.isBlank()) {
                String[] sides = row.trim().split(" = ");
                long got = x.call(sides[0]);
                if (sides.length > 1) {
                    due(row.trim() + " of a run", got, number(sides[1].split(" ")[0]));
                }
            }
        }
    }

    /** Of the number that stands for #: the last that are taken, the first that are refused, and the farthest. */
    private static void ends(String setup, String call, int low, int high, int below, int above) {
        int[] refused = {low - 1, MIN, -1000000, high + 1, MAX, 1000000000};
        for (int i = 0; i < refused.length; i++) {
            if (i < 3 ? refused[i] < low : refused[i] > high) {
                asked(setup, call.replace("#", "" + refused[i]), i < 3 ? below : above);
            }
        }
        for (int n : new int[] {low, high}) {
            String taken = call.replace("#", "" + n);
            long got = new Run(setup).call(taken);
            due(taken + " is taken", got == below || got == above ? got : 0, 0);
            if (changesNothing(taken, got)) {
                sameAsTwin(setup, taken, got);
            }
        }
    }

    private static void ends(String setup, String call, int low, int high) {
        ends(setup, call, low, high, BAD, BAD);
    }

    private static boolean isFinding(long got) {
        return got <= NULL && got >= STORE;
    }

    private static boolean changesNothing(String call, long got) {
        boolean isRefused = got == BAD || got == STATE || got == FULL || isFinding(got);
        switch (call.split(" ")[0]) {
            case "row": case "set": case "copy": case "drop": case "feed": case "undo": case "hours": case "snuff":
            case "leave": case "come": case "june": case "image": case "restore": case "ask":
                return isRefused;
            case "bench":
                return false;
            default:
                return true;
        }
    }

    private static void sameAsTwin(String setup, String call, long got) {
        long status = new Run(setup).call("status");
        if (isFinding(got)) {
            status = NULL + 1 - got;
        } else if (got != BAD && got != STATE && got != FULL && call.matches("(rang|who|as) .*")) {
            status = 0;
        }
        Run x = new Run(setup);
        x.call(call);
        due("status behind " + call, x.call("status"), status);
        due("fault behind " + call, x.call("fault"), new Run(setup).call("fault"));
        twinsAgree(setup, setup + call, call);
    }

    private static void twinsAgree(String first, String second, String call) {
        for (List<String> probe : PROBES) {
            Run x = new Run(first);
            Run y = new Run(second);
            for (String look : probe) {
                due(look + " behind " + call, y.call(look), x.call(look));
            }
        }
    }

    // ---- all that can be asked of an object, in parts, as each object has a limit of calls

    private static final List<List<String>> PROBES = probes();

    private static List<List<String>> probes() {
        List<List<String>> all = new ArrayList<>();
        all.add(looks());
        all.add(undone(List.of("count 2", "count 3", "count 4", "count 5", "place 0", "place 1", "place 2",
            "place 3", "place 4", "place 5", "place 6")));
        List<String> warmAndBack = new ArrayList<>();
        for (int man = 0; man < 6; man++) {
            warmAndBack.add("man " + man + " 1");
            warmAndBack.add("man " + man + " 2");
        }
        all.add(undone(warmAndBack));
        for (int k = 0; k < 2; k++) {
            List<String> restored = new ArrayList<>(List.of("restore " + k));
            restored.addAll(looks());
            all.add(restored);
        }
        List<String> read = new ArrayList<>(List.of("bench", "fault"));
        read.addAll(looks());
        all.add(read);
        for (int row = 0; row < 8; row++) {
            all.add(itemsOf(row));
        }
        return all;
    }

    private static List<String> looks() {
        List<String> all = new ArrayList<>();
        for (int i = 0; i < 8; i++) {
            all.add("count " + i);
        }
        for (int place = 0; place < 7; place++) {
            all.add("place " + place);
        }
        for (int man = 0; man < 7; man++) {
            all.add("kind " + man);
            for (int what = 0; what < 6; what++) {
                all.add("man " + man + " " + what);
            }
        }
        for (int h = 0; h < 24; h++) {
            all.add("sun " + h);
        }
        for (int i = 0; i <= 16; i++) {
            all.add("trace " + i);
        }
        return all;
    }

    private static List<String> undone(List<String> looks) {
        List<String> all = new ArrayList<>();
        for (int k = 0; k < 25; k++) {
            all.add("undo");
            all.addAll(looks);
        }
        return all;
    }

    /** With k men who stay, rang tells whether an ITEM is k. */
    private static List<String> itemsOf(int row) {
        List<String> all = new ArrayList<>(List.of("bench", SEVEN.trim()));
        for (int sit = 7; sit >= 0; sit--) {
            for (int i = 0; i < 40; i++) {
                all.add("rang " + row + " " + i + " 1");
            }
            if (sit > 0) {
                all.add("leave " + (sit - 1));
            }
        }
        all.add("set " + row + " 0 40000");
        all.add("drop " + row);
        return all;
    }

    /** Whether an ITEM is v, for v from 0 to 7. */
    private static String holds(int row, int i, int v) {
        StringBuilder calls = new StringBuilder("bench\n" + SEVEN);
        for (int man = 6; man >= v; man--) {
            calls.append("leave ").append(man).append('\n');
        }
        return calls.append("rang ").append(row).append(' ').append(i).append(" 1 = ").append("255\n").toString();
    }

    private static void items(String setup, int row, int... wanted) {
        for (int i = 0; i < wanted.length; i++) {
            run(setup, holds(row, i, wanted[i]));
        }
        due("size of row " + row, new Run(setup).call("drop " + row), wanted.length);
    }

    public static void main(String[] args) {
        noBench();
        rowEnds();
        rowsAreZeroAtFirst();
        setBits();
        copyEnds();
        copyOverItself();
        dropEnds();
        tapeEnds();
        tokensByteByByte();
        tokensCutShort();
        numbers();
        runsOfFigures();
        menOnTheTape();
        ofOneTokenTheLeast();
        faultLeavesAll();
        benchAnew();
        latestFault();
        actsAtMost();
        actsUndone();
        hoursEnds();
        lastHour();
        sunRound();
        sunByHours();
        asManyAsSit();
        juneBackwards();
        admiralsHalf();
        longHours();
        calledByWhereHeSitsThen();
        nobodySits();
        snuffEnds();
        leaveAndComeEnds();
        juneEnds();
        looksEnds();
        manByWhat();
        aheadEnds();
        sunnyEnds();
        mostEnds();
        leastSnuffEnds();
        whenToComeEnds();
        rangEnds();
        rangByDinners();
        whoEnds();
        elmEnds();
        lastsEnds();
        wagerEnds();
        callsEnds();
        lateEnds();
        drawnEnds();
        imageEnds();
        kindEnds();
        askEnds();
        traceAtMost();
        countEnds();
        statusEnds();
        lastCall();
        System.out.println(right + " answers as due, " + wrong + " not");
        if (wrong != 0) {
            System.exit(1);
        }
    }

    // ---- no BENCH

    private static void noBench() {
        promise = 1;
        String calls = """
            count 1 = 0
            count 2 = 0
            count 3 = 0
            count 4 = 0
            count 5 = 0
            count 6 = 0
            count -1 = BAD
            count 8 = BAD
            fault = 0
            undo = STATE
            trace 0 = NONE
            hours 1 = STATE
            hours 0 = STATE ahead of BAD
            hours 25 = STATE
            hours MIN = STATE
            june 0 = STATE
            june 1 = STATE
            june 2 = STATE ahead of BAD
            june -1 = STATE
            place 0 = STATE
            place 7 = STATE ahead of BAD
            place -1 = STATE
            sun 0 = STATE
            sun 24 = STATE ahead of BAD
            sun -1 = STATE
            most 0 0 = STATE
            most -1 0 = STATE ahead of BAD
            most 61 1 = STATE
            most 0 2 = STATE
            rang 0 0 1 = STATE
            rang 8 0 1 = STATE ahead of BAD
            rang -1 0 1 = STATE
            rang 0 0 0 = STATE
            rang 0 0 13 = STATE
            rang 3 0 1 = STATE ahead of NULL
            rang 0 99 1 = STATE ahead of PLACE
            elm 1 = STATE
            elm 0 = STATE ahead of BAD
            elm 61 = STATE
            lasts = STATE
            calls 1 = STATE
            calls 0 = STATE ahead of BAD
            calls 61 = STATE
            drawn 0 1 0 = STATE
            drawn -1 1 0 = STATE ahead of BAD
            drawn 61 1 0 = STATE
            drawn 1 0 0 = STATE
            drawn 1 1000000 0 = STATE
            drawn 1 1 2 = STATE
            image 0 = STATE
            image 1 = STATE
            image 2 = BAD ahead of STATE
            image -1 = BAD
            restore 0 = STATE
            restore 1 = STATE
            restore 2 = BAD ahead of STATE
            restore -1 = BAD
            snuff 0 = BAD
            leave 0 = BAD
            come 0 = BAD
            man 0 0 = BAD
            ahead 0 0 0 = BAD
            sunny 0 = BAD
            leastSnuff 0 1 1 = BAD
            whenToCome 0 1 0 = BAD
            who 0 0 0 1 = BAD
            who 0 3 0 1 = BAD ahead of NULL
            wager 0 1 1 = BAD
            late 0 0 0 = BAD
            late 0 0 1 = BAD
            kind 0 = BAD
            as 0 0 = BAD
            ask 0 0 = BAD
            ask 0 1 = BAD
            """;
        each("", calls + "status = 0\ncount 0 = 0\ncount 7 = 0\n");
        each("row 0 0 2\ntext b1,2;\ndrop 5\n", calls + "status = 1\ncount 0 = 1\ncount 7 = 5\n");
        // a text with a fault makes no bench
        run("told b0,0;\n", "count 1 = 0\nhours 1 = STATE\nkind 0 = BAD\nimage 0 = STATE\n");
    }

    // ---- rows

    private static void rowEnds() {
        promise = 2;
        ends(RICH, "row # 0 1", 0, 7);
        ends(RICH, "row 0 # 1", 0, 2);
        ends(RICH, "row 3 # 1", 0, 2);
        ends(RICH, "row 0 0 #", 0, 40, SIZE, BAD);
        ends(RICH, "row 3 2 #", 0, 40, SIZE, BAD);
        ends("", "row 7 1 #", 0, 40, SIZE, BAD);
        each(RICH, """
            row 0 0 0 = 0
            row 0 0 40 = 40
            row 8 0 -1 = BAD ahead of SIZE
            row -1 0 -1 = BAD
            row 0 3 -1 = BAD
            row 0 -1 -1 = BAD
            row -1 3 41 = BAD
            """);
    }

    private static void rowsAreZeroAtFirst() {
        items("row 0 0 3\n", 0, 0, 0, 0);
        items("row 0 0 0\n", 0);
        items("row 7 2 40\n", 7, new int[40]);
        String three = "row 0 0 3\nset 0 0 1\nset 0 1 2\nset 0 2 3\n";
        items(three + "row 0 0 3\n", 0, 0, 0, 0);
        items(three + "row 0 1 2\n", 0, 0, 0);
        items(three + "row 0 0 1\nrow 0 0 4\n", 0, 0, 0, 0, 0);
        items(three + "drop 0\nrow 0 0 3\n", 0, 0, 0, 0);
        items(three + "row 1 0 3\n", 0, 1, 2, 3);
        items(three + "row 0 0 -1\n", 0, 1, 2, 3);
        items(three + "row 0 0 41\n", 0, 1, 2, 3);
    }

    private static void setBits() {
        promise = 3;
        each("row 0 0 1\nrow 1 1 1\nrow 2 2 1\n", """
            set 0 0 127 = 127
            set 0 0 128 = -128
            set 0 0 255 = -1
            set 0 0 256 = 0
            set 0 0 -128 = -128
            set 0 0 -129 = 127
            set 0 0 MIN = 0
            set 0 0 MAX = -1
            set 1 0 128 = 128
            set 1 0 32767 = 32767
            set 1 0 32768 = -32768
            set 1 0 65535 = -1
            set 1 0 65536 = 0
            set 1 0 -32768 = -32768
            set 1 0 -32769 = 32767
            set 1 0 MIN = 0
            set 1 0 MAX = -1
            set 2 0 65536 = 65536
            set 2 0 MIN = MIN
            set 2 0 MAX = MAX
            """);
        items("row 0 0 1\nset 0 0 261\n", 0, 5);
        items("row 0 1 1\nset 0 0 65541\n", 0, 5);
        run("row 0 2 1\nset 0 0 65541\n" + SEVEN + "leave 0\nleave 1\n", "rang 0 0 1 = 0\n");
        ends(RICH, "set # 0 1", 0, 7);
        ends(RICH, "set 0 # 1", 0, 3, PLACE, PLACE);
        ends(RICH, "set 7 # 1", 0, 39, PLACE, PLACE);
        each(RICH, """
            set 2 0 1 = PLACE of none
            set 3 0 1 = NULL
            set 3 -1 1 = NULL ahead of PLACE
            set 3 MAX 1 = NULL
            set 8 -1 1 = BAD
            set -1 0 1 = BAD
            """);
        items(RICH + "set 0 0 1\n", 0, 1, 4, 5, 7);
        items(RICH + "set 0 3 1\n", 0, 3, 4, 5, 1);
    }

    private static void copyEnds() {
        promise = 4;
        ends(RICH, "copy # 0 0 0 0", 0, 7);
        ends(RICH, "copy 0 0 # 0 0", 0, 7);
        ends(RICH, "copy 0 # 7 0 0", 0, 4, PLACE, PLACE);
        ends(RICH, "copy 0 # 7 0 1", 0, 3, PLACE, PLACE);
        ends(RICH, "copy 0 # 7 0 4", 0, 0, PLACE, PLACE);
        ends(RICH, "copy 7 0 0 # 0", 0, 4, PLACE, PLACE);
        ends(RICH, "copy 7 0 0 # 1", 0, 3, PLACE, PLACE);
        ends(RICH, "copy 7 0 0 # 4", 0, 0, PLACE, PLACE);
        ends(RICH, "copy 0 0 7 0 #", 0, 4, PLACE, PLACE);
        ends(RICH, "copy 7 0 0 0 #", 0, 4, PLACE, PLACE);
        ends(RICH, "copy 7 1 7 0 #", 0, 39, PLACE, PLACE);
        ends(RICH, "copy 7 0 7 1 #", 0, 39, PLACE, PLACE);
        each(RICH, """
            copy 0 4 7 40 0 = 0
            copy 0 5 7 40 0 = PLACE
            copy 0 4 7 41 0 = PLACE
            copy 0 0 7 36 4 = 4
            copy 0 0 7 37 4 = PLACE
            copy 7 0 7 0 40 = 40
            copy 7 0 7 0 41 = PLACE
            copy 0 MAX 7 0 MAX = PLACE
            copy 0 0 7 MAX MAX = PLACE
            copy 0 MAX 7 MAX MAX = PLACE
            copy 0 1 7 1 MAX = PLACE
            copy 0 MAX 7 0 1 = PLACE
            copy 0 MAX 7 0 0 = PLACE
            copy 7 0 0 MAX 1 = PLACE
            copy 7 2147483640 7 0 40 = PLACE
            copy 7 0 7 2147483640 40 = PLACE
            copy 0 MIN 7 0 MIN = PLACE
            copy 0 0 7 MIN MIN = PLACE
            copy 0 MIN 7 MIN MIN = PLACE
            copy 0 4 7 4 -4 = PLACE
            copy 0 0 1 0 0 = STORE
            copy 1 0 0 0 0 = STORE
            copy 0 0 2 0 0 = STORE
            copy 2 0 1 0 0 = STORE
            copy 0 -1 1 -1 -1 = STORE ahead of PLACE
            copy 0 MAX 1 MAX MAX = STORE
            copy 3 0 0 0 0 = NULL
            copy 0 0 3 0 0 = NULL
            copy 3 0 3 0 0 = NULL
            copy 3 0 4 0 0 = NULL
            copy 3 -1 1 -1 -1 = NULL ahead of STORE
            copy 1 -1 3 -1 -1 = NULL
            copy 3 0 8 0 0 = BAD ahead of NULL
            copy 8 0 3 0 0 = BAD
            copy -1 0 3 0 0 = BAD
            copy 2 0 2 0 0 = 0
            copy 2 0 2 0 1 = PLACE
            """);
    }

    private static void copyOverItself() {
        String five = "row 0 0 5\nset 0 0 1\nset 0 1 2\nset 0 2 3\nset 0 3 4\nset 0 4 5\nrow 1 0 3\n";
        items(five + "copy 0 0 0 1 4\n", 0, 1, 1, 2, 3, 4);
        items(five + "copy 0 1 0 0 4\n", 0, 2, 3, 4, 5, 5);
        items(five + "copy 0 0 0 2 3\n", 0, 1, 2, 1, 2, 3);
        items(five + "copy 0 2 0 0 3\n", 0, 3, 4, 5, 4, 5);
        items(five + "copy 0 0 0 0 5\n", 0, 1, 2, 3, 4, 5);
        items(five + "copy 0 5 0 5 0\n", 0, 1, 2, 3, 4, 5);
        items(five + "copy 0 4 0 0 1\n", 0, 5, 2, 3, 4, 5);
        items(five + "copy 0 1 1 0 3\n", 1, 2, 3, 4);
        items(five + "copy 0 1 1 0 3\n", 0, 1, 2, 3, 4, 5);
        items(five + "copy 0 4 1 2 1\n", 1, 0, 0, 5);
        items(five + "copy 1 0 0 1 3\n", 0, 1, 0, 0, 0, 5);
        items(five + "copy 0 0 1 0 4\n", 1, 0, 0, 0);
    }

    private static void dropEnds() {
        promise = 5;
        ends(RICH, "drop #", 0, 7);
        each(RICH, "drop 0 = 4\ndrop 7 = 40\ndrop 2 = 0\ndrop 3 = NULL\ndrop 6 = NULL\n");
        run(RICH, """
            drop 0 = 4
            drop 0 = NULL
            count 0 = 3
            set 0 0 1 = NULL
            rang 0 0 1 = NULL
            who 0 0 0 1 = NULL
            copy 0 0 7 0 0 = NULL
            row 0 2 1 = 1
            count 0 = 4
            """);
        StringBuilder all = new StringBuilder();
        for (int row = 0; row < 8; row++) {
            all.append("row ").append(row).append(" 0 ").append(row).append(" = ").append(row).append('\n');
            all.append("count 0 = ").append(row + 1).append('\n');
        }
        for (int row = 0; row < 8; row++) {
            all.append("drop ").append(row).append(" = ").append(row).append('\n');
            all.append("count 0 = ").append(7 - row).append('\n');
        }
        run("", all.toString());
    }

    // ---- the tape and its texts

    private static void tapeEnds() {
        promise = 6;
        ends(RICH, "feed #", 0, 255);
        each(RICH, "feed 0 = 4\nfeed 255 = 4\n");
        String full = times(100, "feed 98\n");
        each(full, """
            feed 0 = FULL
            feed 98 = FULL
            feed 255 = FULL
            feed -1 = BAD ahead of FULL
            feed 256 = BAD
            feed MIN = BAD
            feed MAX = BAD
            """);
        run(times(98, "feed 98\n"), """
            feed 0 = 99
            feed 255 = 100
            feed 98 = FULL
            count 7 = 100
            bench = -1000101
            count 7 = 0
            feed 98 = 1
            """);
        run("text b23,9;s23,9;\n" + times(88, "feed 120\n"), "feed 1 = FULL\nbench = -1000112\nfault = 1\n");
    }

    private static void read(String text, int answer, int fault) {
        SunBench x = new SunBench();
        for (char c : text.toCharArray()) {
            x.feed(c);
        }
        due("bench of " + text, x.bench(), answer);
        due("fault of " + text, x.fault(), fault);
        due("bytes behind " + text, x.count(7), 0);
        due("men behind " + text, x.count(1), Math.max(answer, 0));
    }

    private static void faulty(String text, int fault, int place) {
        read(text, -1000100 - place, fault);
    }

    /** Each byte of a text of two men becomes each other byte. */
    private static void tokensByteByByte() {
        promise = 7;
        String text = "b1,2;s3,4;n5,6;";
        for (int p = 0; p < text.length(); p++) {
            for (char c = 0; c < 256; c++) {
                String changed = text.substring(0, p) + c + text.substring(p + 1);
                char was = text.charAt(p);
                boolean isFigure = c >= '0' && c <= '9';
                boolean isLong = p == 8 || p == 13;
                if (c == was || (p == 5 || p == 10) && "snabd".indexOf(c) >= 0) {
                    read(changed, 2, 0);
                } else if (was >= '0' && was <= '9' && isFigure) {
                    read(changed, isLong && c == '0' ? -1000100 - p : 2, isLong && c == '0' ? 2 : 0);
                } else if (was == ',' && isFigure) {
                    faulty(changed, 1, p - 1);
                } else if (was == ';' && isFigure) {
                    faulty(changed, 2, p - 1);
                } else {
                    faulty(changed, 1, p);
                }
            }
        }
    }

    private static void tokensCutShort() {
        String text = "b12,3;s14,5;n16,7;";
        for (int n = 0; n <= text.length(); n++) {
            if (n == 12 || n == 18) {
                read(text.substring(0, n), n / 6 - 1, 0);
            } else {
                faulty(text.substring(0, n), 1, n);
            }
        }
        faulty("b", 1, 1);
        faulty("bb", 1, 1);
        faulty("s1,1;", 1, 0);
        faulty("b1,1;b", 1, 6);
        read("b1,1;b1,1;", 1, 0);
        faulty("b1,1;b1,1;,", 1, 10);
        faulty("b1,1;b1,1;1", 1, 10);
        faulty("b1,1;bb1,1;", 1, 6);
        faulty("b,1;s1,1;", 1, 1);
        faulty("b1,;s1,1;", 1, 3);
        faulty("b1,1;s,1;", 1, 6);
        faulty("b1,1;s1,;", 1, 8);
        faulty("b1,,1;", 1, 3);
        faulty("b-1,1;", 1, 1);
        faulty("b1,1;s1,1;\n", 1, 10);
        faulty("b1,1;s1 ,1;", 1, 7);
    }

    private static void numbers() {
        for (int n = 0; n < 100; n++) {
            for (int form = n < 10 ? 0 : 1; form < 2; form++) {
                String figures = form == 0 ? "" + n : "" + n / 10 + n % 10;
                read("b" + figures + ",1;s2,3;", n <= 23 ? 1 : -1000101, n <= 23 ? 0 : 2);
                read("b1," + figures + ";s2,3;", n <= 9 ? 1 : -1000103, n <= 9 ? 0 : 2);
                read("b1,1;s" + figures + ",3;", n <= 23 ? 1 : -1000106, n <= 23 ? 0 : 2);
                boolean isLong = n >= 1 && n <= 9;
                read("b1,1;s2," + figures + ";", isLong ? 1 : -1000108, isLong ? 0 : 2);
                // a wrong number ahead of what else is wrong behind it
                read("b1,1;s" + figures, n <= 23 ? -1000106 - figures.length() : -1000106, n <= 23 ? 1 : 2);
                if (n <= 23) {
                    run("told b" + figures + ",9;s" + figures + ",09;\n",
                        "man 0 4 = " + n + "\nman 0 5 = 9\nsun " + n + " = 9\n");
                }
            }
        }
    }

    private static void runsOfFigures() {
        for (int n = 0; n < 1000; n++) {
            String figures = "" + n / 100 + n / 10 % 10 + n % 10;
            faulty("b" + figures + ",1;s2,3;", 1, 1);
            faulty("b1," + figures + ";s2,3;", 1, 3);
            faulty("b1,1;s" + figures + ",3;", 1, 6);
            faulty("b1,1;s2," + figures + ";", 1, 8);
        }
        faulty("b123", 1, 1);
        faulty("b0000,1;s2,3;", 1, 1);
        faulty("b1,1;s2,11111111111111111111;", 1, 8);
        faulty("b1,1;s2,4294967297;", 1, 8);
        faulty("123", 1, 0);
        faulty("b1,1;123", 1, 5);
        faulty("b1,1;s1,1;123", 1, 10);
        faulty("b1123;", 1, 1);
    }

    private static void menOnTheTape() {
        String law = "b23,9;";
        faulty(law, 1, 6);
        for (int men = 1; men <= 7; men++) {
            read(law + "d23,9;".repeat(men), men, 0);
            read(law + "d23,09;".repeat(men), men, 0);
        }
        String seven = law + "a23,9;".repeat(7);
        for (char c = 0; c < 256; c++) {
            faulty(seven + c, "snabd".indexOf(c) >= 0 ? 3 : 1, 48);
        }
        faulty(seven + "s23,9;", 3, 48);
        faulty(seven + "s23,9;n1,1;", 3, 48);
        faulty(law + "a23,9;".repeat(6) + "a24,9;s", 2, 43);
        faulty(law + "a23,9;".repeat(6) + "a23,9s", 1, 47);
    }

    private static void ofOneTokenTheLeast() {
        faulty("b240,1;", 1, 1);
        faulty("b24,10;", 2, 1);
        faulty("b23,10;s24,0;", 2, 4);
        faulty("b23,9;s24,0;", 2, 7);
        faulty("b23,9;s23,0;x", 2, 10);
        faulty("b23,9;s23,00;", 2, 10);
        faulty("b24x", 2, 1);
        faulty("bx24", 1, 1);
        faulty("b23,9;" + "a23,9;".repeat(7) + "100", 1, 48);
    }

    private static void faultLeavesAll() {
        String setup = RICH + "bench\n";
        for (String text : new String[] {"x", "b24,", "b1,1;", "b1,1;s1,1", "b23,9;" + "a23,9;".repeat(7) + "s",
            "b1,1;d2,2;n3,3;a4,4;b5,5;s6,10;"}) {
            twinsAgree(setup, setup + "told " + text, "a text with a fault: " + text);
            run(setup + "told " + text + "\n", "status = 1\ncount 7 = 0\n");
        }
        twinsAgree(setup, setup + "bench", "an empty tape");
    }

    private static void benchAnew() {
        run(RICH + "bench\n", """
            told b5,1;n6,7;d8,9; = 2
            count 0 = 4
            count 1 = 2
            count 2 = 3
            count 3 = 0
            count 4 = 0
            count 5 = 0
            count 6 = 0
            count 7 = 0
            undo = STATE
            place 0 = 0
            place 1 = 1
            place 2 = NONE
            man 0 1 = 0
            man 1 1 = 0
            man 0 2 = NONE
            man 1 2 = NONE
            man 2 0 = BAD
            kind 0 = 2
            kind 1 = 5
            sun 5 = 1
            trace 0 = 12
            status = 1
            hours 6 = 3
            hours 1 = 2
            undo = 6
            """);
        // of more men than there were, each as if he were the first to be told
        run(ONE + "hours 24\nleave 0\n" + SEVEN, """
            count 1 = 7
            count 2 = 127
            place 6 = 6
            man 0 1 = 0
            man 6 1 = 0
            come 0 = STATE
            """);
    }

    private static void latestFault() {
        promise = 8;
        run("", """
            fault = 0
            told b0,0;s0,1; = 1
            fault = 0
            told b24,0;s0,1; = -1000101
            fault = 2
            told b0,0;s0,1; = 1
            fault = 2
            told b0,0;s0,1;s0,1;s0,1;s0,1;s0,1;s0,1;s0,1;s = -1000140
            fault = 3
            bench = -1000100
            fault = 1
            feed 256 = BAD
            fault = 1
            """);
    }

    // ---- what is done

    private static void actsAtMost() {
        promise = 9;
        each("", "undo = STATE\n");
        each(ONE, "undo = STATE\n");
        each(ONE + "hours 1\nundo\n", "undo = STATE\n");
        String back = "";
        for (int left = 22; left >= 0; left--) {
            back += "undo = " + left + "\n";
        }
        run(ONE + "june 1\nhours 23\n", "count 6 = 24\nundo = 23\n" + back + "count 5 = 0\ncount 3 = 0\nundo = STATE\n");
        run(ONE + "june 1\nhours 24\n", "count 6 = 24\nundo = 23\n" + back + "count 5 = 1\ncount 3 = 0\nundo = STATE\n");
        run(ONE + "hours 24\nleave 0\n", "count 6 = 24\nundo = 23\n" + back + "count 3 = 1\nundo = STATE\n");
        run(ONE + "hours 24\nhours 24\nhours 7\n", "count 6 = 24\nundo = 23\n" + back + "count 3 = 31\nundo = STATE\n");
        run(ONE + "hours 24\n" + times(10, "undo\n") + "hours 11\n",
            "count 6 = 24\nundo = 23\n" + back + "count 3 = 1\nman 0 1 = 1\nundo = STATE\n");
        run(ONE + "hours 24\n" + times(24, "undo\n") + "hours 3\n", "count 6 = 3\nundo = 2\nundo = 1\nundo = 0\nundo = STATE\n");
        run(ONE + "hours 22\n", """
            hours 1 = 1
            count 6 = 23
            hours 1 = 1
            count 6 = 24
            hours 1 = 1
            count 6 = 24
            undo = 23
            count 3 = 24
            """);
    }

    private static void actsUndone() {
        for (String act : new String[] {"hours 1\n", "snuff 0\n", "leave 0\n", "leave 3\n", "leave 4\n", "come 1\n",
            "june 0\n"}) {
            twinsAgree(RICH, RICH + act + "undo\n", act + "undo");
            due("acts behind " + act, new Run(RICH + act).call("count 6"), 10);
            due("acts left by " + act, new Run(RICH + act).call("undo"), 9);
        }
        twinsAgree(RICH, RICH + "hours 12\n" + times(12, "undo\n"), "twelve HOURS undone");
        twinsAgree(RICH, RICH + "hours 9\nsnuff 3\njune 0\nleave 3\ncome 3\n" + times(13, "undo\n"), "all kinds undone");
    }

    private static void hoursEnds() {
        promise = 10;
        ends(RICH, "hours #", 1, 24);
        each(RICH, """
            hours 1 = 21
            hours 7 = 21
            hours 8 = 29
            hours 24 = 21
            """);
        run(RICH, "hours 24 = 21\ncount 3 = 29\ncount 6 = 24\n");
    }

    private static void lastHour() {
        String at984 = ONE + times(41, "hours 24\n");
        each(at984, """
            count 3 = 984
            hours 14 = 1
            hours 15 = 1
            hours 16 = FULL
            hours 24 = FULL
            hours 25 = BAD ahead of FULL
            hours 0 = BAD
            hours MAX = BAD
            hours MIN = BAD
            """);
        each(at984 + "hours 15\n", """
            count 3 = 999
            hours 1 = FULL
            hours 2 = FULL
            hours 24 = FULL
            hours 25 = BAD
            hours 0 = BAD
            man 0 1 = 42
            ahead 0 60 1 = 45
            sunny 0 = 9
            june 0 = STATE
            june 1 = 0
            leave 0 = 0
            """);
        String at960 = ONE + times(40, "hours 24\n");
        each(at960 + "hours 15\n", "count 3 = 975\nhours 24 = 1\n");
        each(at960 + "hours 16\n", "count 3 = 976\nhours 24 = FULL\nhours 23 = 1\n");
        run(at984 + "hours 15\nundo\n", "hours 2 = FULL\nhours 1 = 1\ncount 3 = 999\n");
    }

    /** Of the ways round from NOON the shorter one, counted step by step. */
    private static int sunOf(int noon, int wide, int h) {
        int far = 0;
        while ((noon + far) % 24 != h && (h + far) % 24 != noon) {
            far++;
        }
        return far < wide ? wide - far : 0;
    }

    private static void sunRound() {
        promise = 17;
        for (int noon = 0; noon < 24; noon++) {
            for (int wide = 0; wide <= 9; wide++) {
                Run x = new Run("told b" + noon + "," + wide + ";b0,1;\n");
                for (int h = 0; h < 24; h++) {
                    due("sun " + h + " of " + noon + "," + wide, x.call("sun " + h), sunOf(noon, wide, h));
                }
            }
        }
        run("told b12,9;b0,1;\n", "sun 0 = 0\nsun 3 = 0\nsun 4 = 1\nsun 12 = 9\nsun 20 = 1\nsun 21 = 0\nsun 23 = 0\n");
        run("told b0,9;b0,1;\n", "sun 0 = 9\nsun 23 = 8\nsun 16 = 1\nsun 15 = 0\nsun 9 = 0\nsun 8 = 1\n");
        run("told b23,9;b0,1;\n", "sun 23 = 9\nsun 0 = 8\nsun 7 = 1\nsun 8 = 0\n");
    }

    /** An HOUR is by 24 left over, as far as HOURS go. */
    private static void sunByHours() {
        promise = 10;
        Run x = new Run("told b23,2;b0,1;b0,1;\n");
        int[] warm = new int[2];
        for (int hour = 0; hour < 100; hour++) {
            int sun = sunOf(23, 2, hour % 24);
            due("sits in the sun of HOUR " + hour, x.call("man 1 3"), sun > 1 ? 1 : 0);
            x.call("hours 1");
            warm[0] += sun > 0 ? 1 : 0;
            warm[1] += sun > 1 ? 1 : 0;
            due("WARM behind HOUR " + hour, x.call("man 0 1") * 1000 + x.call("man 1 1"), warm[0] * 1000 + warm[1]);
        }
        String at984 = "told b15,1;b0,1;\n" + times(41, "hours 24\n");
        run(at984 + "hours 14\n", "man 0 3 = 0\nhours 1 = 1\nman 0 3 = 1\nman 0 1 = 41\n");
    }

    private static void asManyAsSit() {
        for (int men = 1; men <= 7; men++) {
            for (int wide = 0; wide <= 9; wide++) {
                String told = "told b0," + wide + ";" + "b0,1;".repeat(men) + "\n";
                int sunny = Math.min(men, wide);
                int plain = (1 << sunny) - 1;
                int june = plain << men - sunny;
                due("June of " + men + " in " + wide, new Run(told).call("june 1"), june);
                due("June's end of " + men + " in " + wide, new Run(told + "june 1\n").call("june 0"), plain);
                for (int man = 0; man < men; man++) {
                    due("sun of " + man, new Run(told).call("man " + man + " 3"), plain >> man & 1);
                    due("warm of " + man, new Run(told + "hours 1\n").call("man " + man + " 1"), plain >> man & 1);
                    due("June's sun of " + man, new Run(told + "june 1\n").call("man " + man + " 3"), june >> man & 1);
                    due("June's warm of " + man, new Run(told + "june 1\nhours 1\n").call("man " + man + " 1"),
                        june >> man & 1);
                }
            }
        }
    }

    /** From the last one who sits, not from the last PLACE of the bench. */
    private static void juneBackwards() {
        String five = "told b0,2;b0,1;b0,1;b0,1;b0,1;b0,1;\n";
        run(five, "june 1 = 24\nleave 4 = 4\nman 2 3 = 1\nman 3 3 = 1\nman 1 3 = 0\nman 4 3 = 0\n");
        run(five + "leave 0\nleave 1\nleave 2\n", "june 1 = 24\nleave 3 = 1\nman 4 3 = 1\nleave 4 = 0\nman 4 3 = 0\n");
        run(five + "june 1\nhours 1\nleave 4\nhours 23\nhours 1\n", "man 4 1 = 1\nman 3 1 = 4\nman 2 1 = 1\nman 1 1 = 0\n");
    }

    private static void admiralsHalf() {
        for (int others = 0; others <= 6; others++) {
            String behind = "told b12,0;" + "b9,1;".repeat(others) + "a0,1;\nhours 2\n";
            due("an admiral to half of " + others, new Run(behind).call("man " + others + " 0"), others / 2);
            String ahead = "told b12,0;a0,1;" + "b9,1;".repeat(others) + "\nhours 2\n";
            due("an admiral to half of " + others, new Run(ahead).call("man 0 0"), others / 2);
            for (int k = 0; k < others; k++) {
                int place = k < others / 2 ? k : k + 1;
                due("those from there on one further", new Run(behind).call("man " + k + " 0"), place);
                due("those from there on one further", new Run(ahead).call("man " + (k + 1) + " 0"), place);
            }
            String sitter = "told b12,0;s0,1;" + "b9,1;".repeat(others) + "\nhours 2\n";
            due("a sitter to the last", new Run(sitter).call("man 0 0"), others);
        }
        // two in one HOUR, by numbers: half is of how many sit as each comes
        run("told b12,0;a0,2;b9,1;a1,1;b9,1;\nhours 3\n", "place 0 = 1\nplace 1 = 2\nplace 2 = 0\nplace 3 = 3\n");
        run("told b12,0;s0,2;s1,1;b9,1;\nhours 3\n", "place 0 = 2\nplace 1 = 0\nplace 2 = 1\n");
        run("told b12,0;s1,1;s0,2;b9,1;\nhours 3\n", "place 0 = 2\nplace 1 = 0\nplace 2 = 1\n");
    }

    private static void longHours() {
        for (int lasting = 1; lasting <= 9; lasting++) {
            for (int dinner : new int[] {0, 14, 23}) {
                Run x = new Run("told b0,0;s" + dinner + "," + lasting + ";b0,1;\n");
                if (dinner > 0) {
                    due("ahead of DINNER", x.call("hours " + dinner), 3);
                }
                due("goes", x.call("hours 1"), 2);
                for (int left = lasting - 1; left > 0; left--) {
                    due("in how many HOURS of " + lasting, x.call("man 0 2"), left);
                    due("not back yet", x.call("hours 1"), 2);
                }
                due("in the HOUR that comes", x.call("man 0 2"), 0);
                due("does not sit yet", x.call("man 0 0"), NONE);
                due("back", x.call("hours 1"), 3);
                due("sits", x.call("man 0 2"), NONE);
                due("at the last PLACE", x.call("man 0 0"), 1);
            }
        }
    }

    private static void calledByWhereHeSitsThen() {
        // SUN 1: each sitter who goes gives the next one the sun
        run("told b0,1;s0,1;n0,1;\n", "hours 1 = 2\nman 1 1 = 1\n");
        run("told b0,1;b0,1;n0,1;\n", "hours 1 = 1\nman 0 1 = 1\n");
        run("told b0,1;s0,1;d0,1;d0,1;b0,1;\n", "hours 1 = 8\nman 3 1 = 1\n");
        run("told b0,1;n0,1;d0,1;\n", "hours 1 = 3\n");
        run("told b0,1;d0,1;n0,1;\n", "hours 1 = 2\n");
        run("told b0,0;n0,1;d0,1;\n", "hours 1 = 2 without sun\n");
        run("told b0,9;n0,1;d0,1;\n", "hours 1 = 1 with sun\n");
        // in June who goes ahead leaves the sun where it is, but with fewer who sit it reaches further
        run("told b0,1;n0,1;n0,1;\njune 1\n", "hours 1 = 2\n");
        run("told b0,1;d0,1;d0,1;\njune 1\n", "hours 1 = 1\nman 0 1 = 1\n");
        // in the HOUR in which he is back, an admiral takes the sun of the one whom he moves
        run("told b2,1;a1,1;d2,1;\nhours 2\n", "man 1 0 = 0\nhours 1 = 3\nman 0 1 = 1\nman 1 1 = 0\n");
    }

    private static void nobodySits() {
        String empty = "told b0,9;s0,2;b3,1;\nleave 0\nleave 1\n";
        each(empty, """
            count 2 = 0
            hours 1 = 0
            hours 24 = 0
            place 0 = NONE
            june 1 = 0
            man 0 3 = 0
            man 0 2 = NONE
            ahead 0 60 0 = NONE
            ahead 0 60 1 = 0
            sunny 1 = NONE
            most 60 0 = 0
            most 60 1 = 0
            elm 60 = 0
            calls 60 = 0
            wager 0 1 60 = 1000
            late 0 5 0 = 0
            late 0 5 1 = 1
            drawn 60 7 0 = 0
            drawn 60 7 1 = 0
            come 0 = 0
            come 1 = 0
            snuff 0 = STATE
            leave 0 = STATE
            leastSnuff 0 1 1 = STATE
            """);
        run(empty + "row 0 0 12\n", "rang 0 0 12 = 131\nset 0 11 1 = 1\nrang 0 0 12 = 0\n");
    }

    private static void snuffEnds() {
        promise = 11;
        ends(RICH, "snuff #", 0, 4);
        each(RICH, """
            snuff 0 = 1
            snuff 1 = STATE
            snuff 2 = 0
            snuff 3 = STATE
            snuff 4 = STATE
            """);
        run(SEVEN, """
            snuff 6 = 5
            snuff 6 = 4
            snuff 6 = 3
            snuff 6 = 2
            snuff 6 = 1
            snuff 6 = 0
            snuff 6 = STATE
            place 6 = 5
            place 1 = 0
            count 4 = 6
            snuff 0 = 0
            count 4 = 7
            """);
        each(ONE, "snuff 0 = STATE\nsnuff 1 = BAD\n");
        ends(SEVEN, "snuff #", 0, 6);
    }

    private static void leaveAndComeEnds() {
        promise = 12;
        ends(RICH, "leave #", 0, 4);
        ends(SEVEN, "leave #", 0, 6);
        each(RICH, """
            leave 0 = 2
            leave 1 = STATE
            leave 3 = 3 at dinner
            leave 4 = 2
            """);
        run(RICH + "leave 3\n", "man 3 2 = NONE\nhours 24 = 21\nleave 3 = STATE\ncome 3 = 3\nman 3 0 = 3\n");
        run(SEVEN, """
            leave 0 = 6
            leave 6 = 5
            leave 3 = 4
            leave 1 = 3
            leave 2 = 2
            leave 4 = 1
            leave 5 = 0
            leave 5 = STATE
            """);
        promise = 13;
        ends(RICH, "come #", 0, 4);
        ends(SEVEN + "leave 0\nleave 6\n", "come #", 0, 6);
        each(RICH, """
            come 0 = STATE
            come 1 = 3
            come 3 = STATE at dinner
            come 4 = STATE
            """);
        run(SEVEN + "leave 0\n", "come 0 = 6\nplace 0 = 1\nplace 6 = 0\ncome 0 = STATE\n");
        run(ONE + "leave 0\n", "come 0 = 0\nhours 1 = 1\nman 0 1 = 1\n");
    }

    private static void juneEnds() {
        promise = 14;
        ends(RICH, "june #", 0, 1);
        ends(ONE, "june #", 0, 1);
        each(RICH, "june 1 = STATE it is so\njune 0 = 0\njune 2 = BAD\njune -1 = BAD\n");
        each(ONE, "june 0 = STATE it is so\njune 1 = 1\n");
        each(ONE + "june 1\n", "june 1 = STATE\njune 0 = 1\n");
        each(ONE + "june 1\njune 0\n", "june 0 = STATE\njune 1 = 1\n");
        each(ONE + "june 1\nundo\n", "june 0 = STATE\njune 1 = 1\n");
    }

    private static void looksEnds() {
        promise = 15;
        ends(RICH, "man # 0", 0, 4);
        ends(RICH, "man # 1", 0, 4);
        ends(RICH, "man # 5", 0, 4);
        ends(RICH, "man 0 #", 0, 5);
        ends(RICH, "man 1 #", 0, 5);
        ends(SEVEN, "man # 4", 0, 6);
        promise = 16;
        ends(RICH, "place #", 0, 6);
        ends(SEVEN, "place #", 0, 6);
        each(RICH, "place 0 = 4\nplace 1 = 2\nplace 2 = 0\nplace 3 = NONE\nplace 6 = NONE\n");
        each(SEVEN, "place 0 = 0\nplace 6 = 6\n");
        promise = 17;
        ends(RICH, "sun #", 0, 23);
        each(RICH, "sun 0 = 3\nsun 1 = 2\nsun 2 = 1\nsun 3 = 0\nsun 21 = 0\nsun 22 = 1\nsun 23 = 2\n");
    }

    private static void manByWhat() {
        promise = 15;
        each(RICH, """
            man 0 0 = 2
            man 1 0 = NONE
            man 2 0 = 1
            man 3 0 = NONE
            man 4 0 = 0
            man 0 1 = 0
            man 1 1 = 3
            man 2 1 = 2
            man 3 1 = 1
            man 4 1 = 0
            man 0 2 = NONE
            man 1 2 = NONE
            man 3 2 = 7
            man 0 3 = 0
            man 3 3 = 0
            man 3 4 = 3
            man 3 5 = 9
            man 1 4 = 1
            man 4 5 = 1
            """);
        // of this HOUR, as all sit now: not as they sit behind who is back, or behind who is called
        run("told b1,1;s0,1;s1,1;\nhours 1\n", "man 1 3 = 1\nman 0 3 = 0\nhours 1 = 1\nman 0 1 = 1\nman 1 1 = 0\n");
    }

    // ---- foretold

    private static void aheadEnds() {
        promise = 18;
        ends(RICH, "ahead # 0 0", 0, 4);
        ends(RICH, "ahead # 60 1", 0, 4);
        ends(RICH, "ahead 0 # 0", 0, 60);
        ends(RICH, "ahead 0 # 1", 0, 60);
        ends(RICH, "ahead 0 0 #", 0, 1);
        each(RICH, """
            ahead 4 0 0 = 0
            ahead 4 0 1 = 0
            ahead 3 0 0 = NONE
            ahead 3 7 0 = NONE
            ahead 3 8 0 = 1
            ahead 0 8 0 = 3
            ahead 1 60 0 = NONE
            ahead 1 60 1 = 3
            """);
        each("told b11,1;b0,1;\n", "ahead 0 59 1 = 2\nahead 0 60 1 = 3\nahead 0 61 1 = BAD\nahead 0 11 1 = 0\nahead 0 12 1 = 1\n");
    }

    private static void sunnyEnds() {
        promise = 19;
        ends(RICH, "sunny #", 0, 4);
        each("told b12,1;s13,1;d12,1;b0,1;\n", "sunny 2 = 60\nsunny 0 = 12\nsunny 1 = 36\n");
        each("told b13,1;s14,1;d13,1;b0,1;\n", "sunny 2 = NONE\nsunny 1 = 37\n");
        each("told b23,1;b0,1;\n", "sunny 0 = 23\n");
        each("told b0,1;b0,1;b0,1;\n", "sunny 0 = 0\nsunny 1 = NONE\n");
        each("told b0,1;b0,1;b0,1;\nhours 1\n", "sunny 0 = 23\n");
        each("told b0,0;b0,1;\n", "sunny 0 = NONE\n");
        // as all sit ahead of the HOUR: who is called in it had its sun, who moves up in it had not
        each("told b0,1;s0,1;b0,1;\n", "sunny 0 = 0\nsunny 1 = 24\n");
        // back by that HOUR is not back yet
        each("told b2,1;s0,2;\n", "sunny 0 = NONE\n");
        each("told b3,1;s0,2;\n", "sunny 0 = 3\n");
    }

    private static void mostEnds() {
        promise = 20;
        ends(RICH, "most # 0", 0, 60);
        ends(RICH, "most # 1", 0, 60);
        ends(RICH, "most 0 #", 0, 1);
        each(RICH, "most 0 0 = 1\nmost 0 1 = 3\n");
        each("told b0,9;b0,1;b0,1;b0,1;\n", "most 0 0 = 0\nmost 0 1 = 0\nmost 1 0 = 0\nmost 1 1 = 1\nmost 60 1 = 43\n");
        each("told b0,1;b0,1;b0,1;b0,1;b0,1;b0,1;b0,1;b0,1;\njune 1\n", "most 0 0 = 0\nmost 1 0 = 6\nmost 1 1 = 1\n");
        each("told b0,1;b0,1;b0,1;b0,1;\nsnuff 1\n", "most 1 0 = 1\n");
        each("told b0,2;b0,1;b0,1;b0,1;\nleave 0\n", "most 1 0 = 1 of 1 and 2\n");
    }

    private static void leastSnuffEnds() {
        promise = 21;
        ends(RICH, "leastSnuff # 1 1", 0, 4);
        ends(RICH, "leastSnuff 0 # 1", 1, 60);
        ends(RICH, "leastSnuff 0 1 #", 1, 60);
        ends(RICH, "leastSnuff 4 60 #", 1, 60);
        each(RICH, """
            leastSnuff 1 1 1 = STATE away for good
            leastSnuff 3 1 1 = STATE at dinner
            leastSnuff 1 0 1 = BAD ahead of STATE
            leastSnuff 3 1 61 = BAD
            """);
        String seven = "told b0,1;b0,1;b0,1;b0,1;b0,1;b0,1;b0,1;b0,1;\n";
        each(seven, """
            leastSnuff 0 1 1 = 0
            leastSnuff 1 1 1 = 1
            leastSnuff 6 1 1 = 6
            leastSnuff 6 1 2 = NONE
            leastSnuff 6 24 2 = NONE
            leastSnuff 6 25 2 = 6
            leastSnuff 0 25 1 = 0 or more than that
            """);
        each("told b0,9;b0,1;\n", """
            leastSnuff 0 60 43 = 0
            leastSnuff 0 60 44 = NONE
            leastSnuff 0 60 60 = NONE
            leastSnuff 0 9 9 = 0
            leastSnuff 0 9 10 = NONE
            """);
        each(seven + "june 1\n", "leastSnuff 6 1 1 = 0\nleastSnuff 5 1 1 = NONE\n");
        each(seven + "hours 1\n", "leastSnuff 0 23 1 = NONE\nleastSnuff 0 24 1 = 0\n");
        // more snuff can be worse: in the sun a doctor goes
        each("told b1,2;b9,1;b9,1;d0,9;\n", "leastSnuff 2 2 1 = 1\n");
    }

    private static void whenToComeEnds() {
        promise = 22;
        ends(RICH, "whenToCome # 1 0", 0, 4);
        ends(RICH, "whenToCome 1 # 0", 1, 40);
        ends(RICH, "whenToCome 1 # 1", 1, 40);
        ends(RICH, "whenToCome 1 1 #", 0, 1);
        each(RICH, """
            whenToCome 0 1 0 = STATE
            whenToCome 3 1 1 = STATE at dinner
            whenToCome 0 41 0 = BAD ahead of STATE
            whenToCome 0 0 0 = BAD
            whenToCome 0 1 2 = BAD
            """);
        each("told b23,1;s22,9;\nleave 0\n", """
            whenToCome 0 1 0 = 0
            whenToCome 0 1 1 = 0
            whenToCome 0 23 0 = 0
            whenToCome 0 23 1 = 0
            whenToCome 0 24 0 = 23
            whenToCome 0 24 1 = 1
            whenToCome 0 40 0 = 23
            """);
        each("told b0,1;b5,1;\nleave 0\n", """
            whenToCome 0 1 0 = 0
            whenToCome 0 1 1 = 1
            whenToCome 0 24 1 = 1
            whenToCome 0 25 1 = 2
            whenToCome 0 40 0 = 0
            """);
        // while he waits others are called: the place in the sun is free behind HOUR 3
        each("told b5,1;s3,9;s4,9;\nleave 1\n", "whenToCome 1 6 0 = 5\nwhenToCome 1 6 1 = 1\nwhenToCome 1 5 1 = 0\n");
        each("told b0,1;b5,1;\nhours 1\nleave 0\n", "whenToCome 0 23 1 = 0\nwhenToCome 0 24 1 = 1\nwhenToCome 0 24 0 = 0\n");
    }

    private static void rangEnds() {
        promise = 23;
        ends(RICH, "rang # 0 1", 0, 7);
        ends(RICH, "rang 0 # 1", 0, 3, PLACE, PLACE);
        ends(RICH, "rang 0 # 4", 0, 0, PLACE, PLACE);
        ends(RICH, "rang 7 # 12", 0, 28, PLACE, PLACE);
        ends(RICH, "rang 7 0 #", 1, 12);
        each(RICH, """
            rang 0 0 5 = PLACE
            rang 0 0 12 = PLACE
            rang 0 MAX 12 = PLACE
            rang 0 2147483644 4 = PLACE
            rang 7 2147483640 12 = PLACE
            rang 0 MIN 1 = PLACE
            rang 2 0 1 = PLACE of none
            rang 3 0 1 = NULL
            rang 3 -1 1 = NULL ahead of PLACE
            rang 3 0 0 = BAD ahead of NULL
            rang 0 -1 13 = BAD ahead of PLACE
            rang 0 0 MIN = BAD
            rang 0 0 MAX = BAD
            """);
    }

    private static void rangByDinners() {
        // behind HOUR 0 as it is: 0 sits not; with DINNER 23 he does
        each("told b0,0;s0,9;\nrow 0 0 1\n", "rang 0 0 1 = 128\n");
        each("told b0,0;s0,9;\nrow 0 0 1\nset 0 0 1\n", "rang 0 0 1 = 1\n");
        each("told b0,0;s1,9;\nrow 0 0 1\n", "rang 0 0 1 = 1\n");
        each("told b0,0;s1,9;\nrow 0 0 1\nset 0 0 1\n", "rang 0 0 1 = 128\n");
        each("told b0,0;s23,9;s22,9;\nhours 22\nrow 0 0 2\nset 0 0 1\n", "rang 0 0 2 = 128\n");
        StringBuilder sevens = new StringBuilder(SEVEN + "row 0 2 40\n");
        for (int i = 28; i < 40; i++) {
            sevens.append("set 0 ").append(i).append(" 7\n");
        }
        each(sevens.toString(), "rang 0 28 12 = 255\nrang 0 39 1 = 255\nrang 0 27 12 = 0\nrang 0 29 12 = PLACE\n");
        each(sevens + "set 0 39 8\n", "rang 0 28 11 = 255\nrang 0 28 12 = 0\n");
        each(sevens + "set 0 28 263\n", "rang 0 28 1 = 0\n");
        each(sevens + "set 0 28 -1\n", "rang 0 28 1 = 0\n");
        // the twelfth HOUR is told, too
        String told = "told b0,0;s12,1;\nrow 0 0 12\n";
        for (int i = 0; i < 12; i++) {
            told += "set 0 " + i + " 1\n";
        }
        each(told, "rang 0 0 12 = 128\n");
        each(told + "set 0 11 0\n", "rang 0 0 12 = 1\nrang 0 0 11 = 129\n");
    }

    private static void whoEnds() {
        promise = 24;
        ends(RICH, "who # 0 0 1", 0, 4);
        ends(RICH, "who 0 # 0 1", 0, 7);
        ends(RICH, "who 0 0 # 1", 0, 3, PLACE, PLACE);
        ends(RICH, "who 0 0 # 4", 0, 0, PLACE, PLACE);
        ends(RICH, "who 0 7 # 12", 0, 28, PLACE, PLACE);
        ends(RICH, "who 0 7 0 #", 1, 12);
        each(RICH, """
            who 0 0 0 5 = PLACE
            who 0 0 2147483644 4 = PLACE
            who 0 7 2147483640 12 = PLACE
            who 0 0 MIN 1 = PLACE
            who 0 2 0 1 = PLACE of none
            who 0 3 0 1 = NULL
            who 0 3 -1 1 = NULL ahead of PLACE
            who 0 3 0 13 = BAD ahead of NULL
            who 5 3 0 1 = BAD
            who 0 0 -1 0 = BAD ahead of PLACE
            """);
        String gone = "row 0 0 12\nset 0 0 -1\n";
        each("told b0,1;s0,9;\n" + gone, "who 0 0 0 1 = 42\nwho 0 0 1 1 = 20\n");
        each("told b0,0;s0,9;\n" + gone, "who 0 0 0 1 = 14\nwho 0 0 1 1 = 48\n");
        each("told b0,0;s1,9;\n" + gone, "who 0 0 0 1 = 0\nwho 0 0 1 1 = 62\n");
        each("told b0,0;s0,9;\nleave 0\n" + gone, "who 0 0 0 1 = 62\n");
        // -1 of a byte that was set as 255, not of an int that was
        each("told b0,0;s0,9;\nrow 0 0 1\nset 0 0 255\n", "who 0 0 0 1 = 14\n");
        each("told b0,0;s0,9;\nrow 0 2 1\nset 0 0 255\n", "who 0 0 0 1 = 0\n");
        each("told b0,0;s0,9;\nrow 0 2 1\nset 0 0 -2\n", "who 0 0 0 1 = 0\n");
        String twelve = "told b0,0;s11,9;b0,1;\nrow 0 0 12\n";
        each(twelve, "who 0 0 0 12 = 48\nwho 0 0 0 11 = 62\n");
        each(twelve + "set 0 11 -1\n", "who 0 0 0 12 = 14\n");
    }

    private static void elmEnds() {
        promise = 25;
        ends(RICH, "elm #", 1, 60);
        each("told b7,7;b0,1;b0,1;b0,1;b0,1;b0,1;b0,1;b0,1;\n", """
            elm 1 = 0
            elm 2 = 1
            elm 3 = 3
            elm 7 = 63
            elm 8 = 127
            elm 60 = 127
            """);
        each("told b0,8;b0,1;b0,1;b0,1;b0,1;b0,1;b0,1;b0,1;\n", "elm 1 = 0\nelm 2 = 64\n");
        each("told b0,0;b0,1;b0,1;\n", "elm 1 = 0\nelm 60 = 0\n");
        each("told b0,1;b0,1;b0,1;\n", "elm 1 = 1\n");
        each("told b0,1;b0,1;b0,1;\njune 1\n", "elm 1 = 2\n");
        each("told b11,1;b0,1;\nhours 12\n", "elm 23 = 0\nelm 24 = 1\nelm 47 = 1\n");
        each("told b11,1;b0,1;\n", "elm 11 = 0\nelm 12 = 1\n");
    }

    private static void lastsEnds() {
        promise = 26;
        each(RICH, "lasts = 5\n");
        for (int noon : new int[] {0, 11, 12, 23}) {
            for (int wide = 0; wide <= 9; wide++) {
                String told = "told b" + noon + "," + wide + ";b0,1;\n";
                due("lasts of " + told, new Run(told).call("lasts"), wide == 0 ? 0 : 2 * wide - 1);
                due("lasts in June", new Run(told + "june 1\nhours 13\n").call("lasts"), wide == 0 ? 0 : 2 * wide - 1);
            }
        }
    }

    private static void wagerEnds() {
        promise = 27;
        ends(RICH, "wager # 2 1", 0, 4);
        ends(RICH, "wager 2 # 1", 0, 4);
        ends(RICH, "wager 0 1 #", 1, 60);
        each(RICH, """
            wager 0 0 1 = BAD alike
            wager 4 4 60 = BAD alike
            wager 5 5 1 = BAD
            wager 1 0 1 = 1003
            wager 0 1 1 = 997
            wager 0 4 1 = 1000
            """);
        each("told b0,9;b0,1;b0,1;\nleave 1\n", "wager 0 1 60 = 1043\nwager 1 0 60 = 957\n");
    }

    private static void callsEnds() {
        promise = 28;
        ends(RICH, "calls #", 1, 60);
        each(ONE, "calls 1 = 0\ncalls 60 = 0\n");
        each("told b0,0;s0,1;s0,1;s0,1;s0,1;s0,1;s0,1;s0,1;\n", "calls 1 = 7\ncalls 24 = 7\ncalls 25 = 14\ncalls 60 = 21\n");
        each("told b0,0;s11,1;\n", "calls 11 = 0\ncalls 12 = 1\ncalls 59 = 2\ncalls 60 = 3\n");
        // called, but does not go
        each("told b0,1;n0,1;b0,1;d0,1;\n", "calls 60 = 0\n");
    }

    private static void lateEnds() {
        promise = 29;
        ends(RICH, "late # 0 0", 0, 4);
        ends(RICH, "late 0 # 0", 0, 10);
        ends(RICH, "late 0 # 1", 0, 10);
        ends(RICH, "late 0 0 #", 0, 1);
        each(RICH, "late 1 5 0 = 0\nlate 1 5 1 = 1\nlate 3 5 0 = 0\nlate 3 5 1 = 1\n");
        each("told b0,1;s0,1;b1,1;\n", """
            late 0 0 0 = 0
            late 0 0 1 = 1
            late 0 1 0 = 1
            late 0 1 1 = 10
            late 0 5 0 = 1
            late 0 5 1 = 2
            late 0 9 0 = 9
            late 0 9 1 = 10
            late 0 10 0 = 1
            late 0 10 1 = 1
            late 1 0 0 = 1
            late 1 0 1 = 1
            late 1 4 0 = 3
            late 1 4 1 = 5
            late 1 10 0 = 0
            late 1 10 1 = 1
            """);
        each("told b0,1;s0,1;s0,1;s0,1;s0,1;s0,1;s0,1;s0,1;\n", """
            late 6 3 0 = 352947
            late 6 3 1 = 10000000
            late 6 10 0 = 0
            late 6 10 1 = 1
            late 0 3 0 = 3
            late 0 3 1 = 10
            late 6 5 0 = 1
            late 6 5 1 = 128
            """);
        // not due: certain, or never
        each("told b0,1;s1,1;s1,1;\n", "late 0 7 0 = 1\nlate 0 7 1 = 1\nlate 1 7 0 = 0\nlate 1 7 1 = 1\n");
        // one who is due in this HOUR, but does not sit, is not forgotten
        each("told b0,1;s0,1;b1,1;\nleave 0\n", "late 1 5 0 = 1\nlate 1 5 1 = 1\n");
        // who is back in this HOUR comes ahead of the calls
        each("told b1,1;a0,1;s1,1;\nhours 1\n", "late 0 5 0 = 1\nlate 0 5 1 = 1\n");
        each("told b1,1;s0,1;s1,1;\nhours 1\n", "late 0 3 0 = 7\nlate 0 3 1 = 10\nlate 1 3 0 = 3\nlate 1 3 1 = 10\n");
    }

    private static void drawnEnds() {
        promise = 30;
        ends(RICH, "drawn # 1 0", 0, 60);
        ends(RICH, "drawn # 999999 1", 0, 60);
        ends(RICH, "drawn 1 # 0", 1, 999999);
        ends(RICH, "drawn 60 # 1", 1, 999999);
        ends(RICH, "drawn 1 1 #", 0, 1);
        each(RICH, "drawn 0 1 0 = 0\ndrawn 0 1 1 = 6\n");
        each(ONE, "drawn 60 999999 0 = 0\ndrawn 60 999999 1 = 3\n");
        // others are called on those days, too; all men are added, and no more than there are
        each("told b0,1;s0,9;\n", "drawn 1 1 1 = 0\ndrawn 60 1 1 = 0\n");
        each("told b0,9;s0,1;s0,1;s0,1;s0,1;s0,1;s0,1;b0,1;\n", "drawn 1 1 0 = 0\ndrawn 1 1 1 = 1\n");
        String seven = "told b0,9;b0,1;b0,1;b0,1;b0,1;b0,1;b0,1;b0,1;\n";
        each(seven, "drawn 0 1 1 = 0\ndrawn 1 1 1 = 7\n");
        each(seven + "hours 1\n" + ONE, "drawn 0 1 1 = 0\n");
        for (int seed : new int[] {1, 2, 16807, 127773, 999998, 999999}) {
            for (int men : new int[] {2, 5, 7}) {
                int[] sit = {0, 1, 2, 3, 4, 5, 6};
                int often = 0;
                long x = seed;
                for (int n = 0; n <= 60; n++) {
                    String told = "told b0,0;" + "b0,1;".repeat(men) + "\n";
                    due("drawn " + n + " of " + men, new Run(told).call("drawn " + n + " " + seed + " 0"), often);
                    x = x * 16807 % 2147483647;
                    for (int p = 1; p < men; p++) {
                        if (sit[p] == x % men) {
                            sit[p] = sit[p - 1];
                            sit[p - 1] = (int) (x % men);
                            often++;
                            break;
                        }
                    }
                }
            }
        }
    }

    private static void imageEnds() {
        promise = 31;
        ends(RICH, "image #", 0, 1);
        run(RICH, "image 0 = 1\nimage 1 = 1\ncount 6 = 9\nstatus = 1\n");
        promise = 32;
        ends(RICH, "restore #", 0, 1);
        each(ONE, "restore 0 = STATE\nrestore 1 = STATE\nrestore 2 = BAD\nrestore -1 = BAD\n");
        each(ONE + "image 0\n", "restore 1 = STATE\nrestore 0 = 1\n");
        each(ONE + "image 1\n", "restore 0 = STATE\nrestore 1 = 1\n");
        for (int k = 0; k < 2; k++) {
            String kept = RICH + "image " + k + "\nrestore " + k + "\n";
            String later = RICH + "image " + k + "\nhours 9\nsnuff 3\njune 0\nleave 0\ncome 1\nrestore " + k + "\n";
            twinsAgree(kept, later, "restore " + k);
            twinsAgree(kept, later + "hours 20\nleave 2\nrestore " + k + "\n", "restore twice " + k);
        }
        run(RICH, """
            restore 1 = 1
            count 3 = 0
            count 4 = 0
            count 5 = 0
            count 6 = 0
            count 2 = 31
            man 1 1 = 0
            undo = STATE
            count 7 = 3
            count 0 = 4
            trace 0 = 12
            fault = 2
            restore 0 = 1
            count 3 = 4
            count 4 = 1
            count 5 = 1
            count 6 = 0
            count 2 = 19
            man 3 2 = 8
            man 2 2 = 0
            undo = STATE
            """);
        run(RICH + "bench\n" + "told b9,1;d9,9;\n", "restore 1 = 1\ncount 1 = 5\nkind 0 = 1\nsun 0 = 3\nman 3 5 = 9\n");
    }

    // ---- asked

    private static void kindEnds() {
        promise = 33;
        ends(RICH, "kind #", 0, 4);
        ends(SEVEN, "kind #", 0, 6);
        each(RICH, "kind 0 = 1\nkind 1 = 4\nkind 2 = 2\nkind 3 = 3\nkind 4 = 5\n");
        promise = 34;
        ends(RICH, "as # 0", 0, 4);
        ends(RICH, "as 4 #", 0, 5);
        each(RICH, """
            as 4 0 = 4
            as 4 4 = 4
            as 4 5 = 4
            as 4 1 = KIND
            as 4 3 = KIND
            as 3 1 = 3
            as 3 2 = KIND
            as 2 3 = KIND
            as 1 5 = KIND
            as 1 1 = KIND
            as 0 0 = 0
            as 0 5 = KIND
            as 5 6 = BAD
            """);
    }

    private static void askEnds() {
        promise = 35;
        ends(RICH, "ask # 0", 0, 4);
        ends(RICH, "ask # 1", 0, 4);
        ends(RICH, "ask 0 #", 0, 1);
        promise = 36;
        ends(RICH, "trace #", 0, 5, NONE, NONE);
        each(RICH, """
            trace 0 = 12
            trace 5 = 20
            trace 6 = NONE
            trace 15 = NONE
            trace 16 = NONE
            trace -1 = NONE
            """);
        run(RICH, """
            ask 4 0 = -200
            trace 0 = 14
            trace 2 = 10
            trace 3 = NONE
            ask 5 0 = BAD
            trace 0 = 14
            trace 3 = NONE
            ask 0 2 = BAD
            trace 2 = 10
            ask 1 1 = 98
            trace 0 = 23
            trace 3 = 10
            trace 4 = NONE
            """);
    }

    /** No ask begins more than 6 BODIES: that the first 16 are kept can only be tried from inside. */
    private static void traceAtMost() {
        try {
            SunBench x = new SunBench();
            Field kept = SunBench.class.getDeclaredField("asks");
            kept.setAccessible(true);
            Object asks = kept.get(x);
            Method leave = asks.getClass().getDeclaredMethod("leaveInTrace", int.class);
            leave.setAccessible(true);
            for (int body = 0; body < 20; body++) {
                leave.invoke(asks, body + 100);
            }
            for (int i = 0; i < 20; i++) {
                due("trace " + i + " of 20", x.trace(i), i < 16 ? i + 100 : NONE);
            }
        } catch (ReflectiveOperationException e) {
            due("the trace from inside: " + e, 1, 0);
        }
    }

    private static void countEnds() {
        promise = 37;
        ends(RICH, "count #", 0, 7);
        ends("", "count #", 0, 7);
        each(RICH, """
            count 0 = 4
            count 1 = 5
            count 2 = 21
            count 3 = 5
            count 4 = 2
            count 5 = 1
            count 6 = 9
            count 7 = 3
            """);
    }

    private static void statusEnds() {
        promise = 38;
        String[] refused = {"row 8 0 1", "row 0 0 41", "set 8 0 1", "copy 8 0 0 0 0", "drop -1", "rang 8 0 1",
            "rang 0 0 13", "who 5 0 0 1", "who 0 0 0 0", "as 5 0", "as 0 6", "feed 256", "snuff 4", "hours 25", "june 1",
            "ask 0 2", "count 8", "place 7", "undo", "trace 99", "kind 0", "ask 0 0", "hours 1", "image 0", "restore 0",
            "bench", "fault", "status", "feed 1"};
        String[] found = {"row 0 0 -1", "set 3 0 1", "set 0 4 1", "copy 0 0 1 0 0", "as 0 2"};
        int[] number = {4, 1, 2, 5, 3};
        String[] answered = {"row 3 0 0", "set 0 3 1", "copy 0 0 7 0 0", "drop 2", "rang 0 0 1", "who 0 0 0 1", "as 0 1"};
        for (int i = 0; i < found.length; i++) {
            for (String call : refused) {
                due("status behind " + call, new Run(RICH + found[i] + "\n" + call + "\n").call("status"), number[i]);
            }
            for (String call : answered) {
                due("status behind " + call, new Run(RICH + found[i] + "\n" + call + "\n").call("status"), 0);
            }
            for (int j = 0; j < found.length; j++) {
                due("status behind " + found[j], new Run(RICH + found[i] + "\n" + found[j] + "\n").call("status"), number[j]);
            }
        }
        run("", "status = 0\nrang 0 0 1 = STATE\nstatus = 0\ndrop 0 = NULL\nstatus = 1\nrang 0 0 1 = STATE\nstatus = 1\n");
    }

    private static void lastCall() {
        promise = 10;
        run(ONE + times(499, "count 3\n"), "count 6 = 0\nhours 1 = 1\n");
    }
}
