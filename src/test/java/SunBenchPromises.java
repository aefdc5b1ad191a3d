import java.lang.reflect.Constructor;
import java.lang.reflect.Field;
import java.lang.reflect.Method;
import java.lang.reflect.Modifier;
import java.util.Set;
import java.util.TreeSet;

/** Each promise of the document by itself: ordinary inputs, the edges that it names, wrong inputs. */
public final class SunBenchPromises {
    private static final int NONE = -1000000, BAD = -1000001, STATE = -1000002, FULL = -1000003;
    private static final int NULL = -1000011, PLACE = -1000012, KIND = -1000013, SIZE = -1000014, STORE = -1000015;
    private static final int MIN = Integer.MIN_VALUE, MAX = Integer.MAX_VALUE;
    private static int promise = 0;
    private static int wrong = 0;
    private static int right = 0;

    private static void due(String call, long got, long want) {
        if (got == want) {
            right++;
            return;
        }
        wrong++;
        System.out.println("promise " + promise + ": " + call + " answered " + got + ", due is " + want);
    }

    private static void feed(SunBench x, String text) {
        for (int i = 0; i < text.length(); i++) {
            x.feed(text.charAt(i));
        }
    }

    private static SunBench told(String text) {
        SunBench x = new SunBench();
        feed(x, text);
        x.bench();
        return x;
    }

    /** Who sits, from PLACE 0 on, as figures of one number behind a 1. */
    private static long seats(SunBench x) {
        long all = 1;
        for (int p = 0; p < 7; p++) {
            if (x.place(p) >= 0) {
                all = all * 10 + x.place(p);
            }
        }
        return all;
    }

    public static void main(String[] args) {
        face();
        newObject();
        row();
        set();
        copy();
        drop();
        feed();
        bench();
        benchInPlaceOfAnother();
        fault();
        undo();
        hours();
        hoursOfKinds();
        hoursInJune();
        snuff();
        leave();
        come();
        june();
        man();
        place();
        sun();
        ahead();
        sunny();
        most();
        leastSnuff();
        whenToCome();
        rang();
        who();
        elm();
        lasts();
        wager();
        calls();
        late();
        drawn();
        image();
        restore();
        kind();
        as();
        ask();
        trace();
        count();
        status();
        System.out.println(right + " answers as due, " + wrong + " not");
        if (wrong != 0) {
            System.exit(1);
        }
    }

    private static void face() {
        promise = 0;
        Set<String> names = new TreeSet<>();
        for (Method m : SunBench.class.getDeclaredMethods()) {
            if (Modifier.isPublic(m.getModifiers())) {
                names.add(m.getName() + m.getParameterCount() + m.getReturnType());
            } else {
                due("private " + m.getName(), Modifier.isPrivate(m.getModifiers()) ? 1 : 0, 1);
            }
        }
        Set<String> wanted = new TreeSet<>(Set.of("row3int", "set3int", "copy5int", "drop1int", "feed1int", "bench0int",
            "fault0int", "undo0int", "hours1int", "snuff1int", "leave1int", "come1int", "june1int", "man2int",
            "place1int", "sun1int", "ahead3int", "sunny1int", "most2int", "leastSnuff3int", "whenToCome3int",
            "rang3int", "who4int", "elm1int", "lasts0int", "wager3int", "calls1int", "late3long", "drawn3int",
            "image1int", "restore1int", "kind1int", "as2int", "ask2int", "trace1int", "count1int", "status0int"));
        due("public methods " + names, names.equals(wanted) ? 1 : 0, 1);
        int constants = 0;
        for (Field f : SunBench.class.getDeclaredFields()) {
            constants += Modifier.isPublic(f.getModifiers()) ? 1 : 0;
            due("field " + f.getName(),
                Modifier.isPublic(f.getModifiers()) || Modifier.isPrivate(f.getModifiers()) ? 1 : 0, 1);
        }
        due("public fields", constants, 4);
        Constructor<?>[] made = SunBench.class.getDeclaredConstructors();
        due("constructors", made.length, 1);
        due("NONE", SunBench.NONE, NONE);
        due("BAD", SunBench.BAD, BAD);
        due("STATE", SunBench.STATE, STATE);
        due("FULL", SunBench.FULL, FULL);
    }

    private static void newObject() {
        promise = 1;
        SunBench x = new SunBench();
        for (int what = 0; what < 8; what++) {
            due("count", x.count(what), 0);
        }
        due("hours", x.hours(1), STATE);
        due("man", x.man(0, 0), BAD);
        due("fault", x.fault(), 0);
        due("status", x.status(), 0);
        due("trace", x.trace(0), NONE);
    }

    private static void row() {
        promise = 2;
        SunBench x = new SunBench();
        due("row", x.row(0, 0, 3), 3);
        due("row of none", x.row(7, 2, 0), 0);
        due("row of 40", x.row(1, 1, 40), 40);
        due("41", x.row(1, 1, 41), BAD);
        due("row -1", x.row(-1, 0, 1), BAD);
        due("row 8", x.row(8, 0, 1), BAD);
        due("lane -1", x.row(0, -1, 1), BAD);
        due("lane 3", x.row(0, 3, 1), BAD);
        due("lane ahead of size", x.row(0, 3, -1), BAD);
        due("size", x.row(0, 0, -1), SIZE);
        due("size", x.row(0, 0, MIN), SIZE);
        due("the row stays", x.set(0, 2, 9), 9);
        due("in place", x.row(0, 0, 3), 3);
        x.row(2, 0, 3);
        due("rows", x.count(0), 4);
        feed(x, "b0,0;s0,1;");
        x.bench();
        due("items are 0 again: nobody sits", x.rang(0, 2, 1), 128);
        due("another lane", x.row(0, 1, 1), 1);
        due("two lanes now", x.copy(0, 0, 2, 0, 1), STORE);
    }

    private static void set() {
        promise = 3;
        SunBench x = new SunBench();
        x.row(0, 0, 2);
        x.row(1, 1, 2);
        x.row(2, 2, 2);
        due("byte", x.set(0, 0, 127), 127);
        due("byte", x.set(0, 0, 128), -128);
        due("byte", x.set(0, 1, 511), -1);
        due("short", x.set(1, 0, 32767), 32767);
        due("short", x.set(1, 0, 32768), -32768);
        due("short", x.set(1, 0, 65536 + 7), 7);
        due("int", x.set(2, 0, MIN), MIN);
        due("row", x.set(-1, 0, 0), BAD);
        due("row", x.set(8, 0, 0), BAD);
        due("null", x.set(3, 0, 0), NULL);
        due("null ahead of place", x.set(3, -1, 0), NULL);
        due("place", x.set(0, -1, 0), PLACE);
        due("place", x.set(0, 2, 0), PLACE);
        due("place", x.set(0, MAX, 0), PLACE);
        due("place", x.set(0, MIN, 0), PLACE);
        x.row(0, 0, 0);
        due("none", x.set(0, 0, 0), PLACE);
    }

    private static void copy() {
        promise = 4;
        SunBench x = told("b0,9;s0,1;s1,1;s2,1;");
        x.row(0, 0, 4);
        x.row(1, 0, 3);
        for (int i = 0; i < 4; i++) {
            x.set(0, i, 2 - i);
        }
        // 2 1 0 -1 becomes 2 2 1 0: rang reads it as how many sit
        due("over itself", x.copy(0, 0, 0, 1, 3), 3);
        due("as they were ahead", x.rang(0, 0, 2) >= 128 ? 1 : 0, 1);
        due("to another", x.copy(0, 1, 1, 0, 3), 3);
        due("copied", x.rang(1, 0, 1) >= 128 ? 1 : 0, 1);
        due("none", x.copy(0, 4, 1, 3, 0), 0);
        due("a", x.copy(-1, 0, 1, 0, 0), BAD);
        due("b", x.copy(0, 0, 8, 0, 0), BAD);
        due("bad ahead of null", x.copy(7, 0, 8, 0, 0), BAD);
        due("null", x.copy(7, 0, 0, 0, 0), NULL);
        due("null", x.copy(0, 0, 7, 0, 0), NULL);
        x.row(2, 1, 4);
        due("null ahead of store", x.copy(2, 0, 7, 0, -1), NULL);
        due("store ahead of place", x.copy(0, 0, 2, 0, -1), STORE);
        due("store of none", x.copy(0, 0, 2, 0, 0), STORE);
        due("i", x.copy(0, -1, 1, 0, 1), PLACE);
        due("j", x.copy(0, 0, 1, -1, 1), PLACE);
        due("n", x.copy(0, 0, 1, 0, -1), PLACE);
        due("end of a", x.copy(0, 3, 1, 0, 2), PLACE);
        due("end of b", x.copy(0, 0, 1, 2, 2), PLACE);
        due("none beyond an end", x.copy(0, 5, 1, 0, 0), PLACE);
        due("far", x.copy(0, MAX, 1, 0, MAX), PLACE);
        due("far", x.copy(0, 1, 1, 1, MAX), PLACE);
        due("far", x.copy(0, MIN, 1, MIN, MIN), PLACE);
    }

    private static void drop() {
        promise = 5;
        SunBench x = new SunBench();
        x.row(3, 1, 17);
        due("drop", x.drop(3), 17);
        due("missing now", x.set(3, 0, 1), NULL);
        due("again", x.drop(3), NULL);
        due("row", x.drop(8), BAD);
        due("row", x.drop(-1), BAD);
        x.row(3, 0, 0);
        due("of none", x.drop(3), 0);
        due("rows", x.count(0), 0);
    }

    private static void feed() {
        promise = 6;
        SunBench x = new SunBench();
        due("-1", x.feed(-1), BAD);
        due("256", x.feed(256), BAD);
        due("0", x.feed(0), 1);
        due("255", x.feed(255), 2);
        for (int i = 2; i < 100; i++) {
            due("feed", x.feed('b'), i + 1);
        }
        due("full", x.feed('b'), FULL);
        due("bad ahead of full", x.feed(256), BAD);
        due("bytes", x.count(7), 100);
    }

    private static void read(String text, int answer, int fault) {
        SunBench x = new SunBench();
        feed(x, text);
        due("bench of " + text, x.bench(), answer);
        due("fault of " + text, x.fault(), fault);
        due("bytes of " + text, x.count(7), 0);
        due("men of " + text, x.count(1), Math.max(answer, 0));
    }

    private static void bench() {
        promise = 7;
        read("b0,0;s0,1;", 1, 0);
        read("b23,9;s23,9;n23,9;a23,9;b23,9;d23,9;s00,01;n09,09;", 7, 0);
        read("", -1000100, 1);
        read("c", -1000100, 1);
        read("B0,0;s0,1;", -1000100, 1);
        read("b", -1000101, 1);
        read("b0", -1000102, 1);
        read("b0;", -1000102, 1);
        read("b0,", -1000103, 1);
        read("b0,0;", -1000105, 1);
        read("b0,0;s0,1", -1000109, 1);
        read("b24,0;s0,1;", -1000101, 2);
        read("b99,", -1000101, 2);
        read("b100,0;s0,1;", -1000101, 1);
        read("b000,0;s0,1;", -1000101, 1);
        read("b0,000000", -1000103, 1);
        read("b0,10;s0,1;", -1000103, 2);
        read("b0,0,s0,1;", -1000104, 1);
        read("b0,0;c0,1;", -1000105, 1);
        read("b0,0;s24,1;", -1000106, 2);
        read("b0,0;s0,0;", -1000108, 2);
        read("b0,0;s0,10;", -1000108, 2);
        read("b0,0;s0,123;", -1000108, 1);
        read("b0,0;ss,1;", -1000106, 1);
        read("b0,0;0,1;", -1000105, 1);
        read("b0,0;s0,1;;", -1000110, 1);
        read("b0,0;s0,1; ", -1000110, 1);
        read("b 0,0;s0,1;", -1000101, 1);
        read("b0,0;s0,1;x", -1000110, 1);
        String seven = "b0,0;s0,1;s0,1;s0,1;s0,1;s0,1;s0,1;s0,1;";
        read(seven, 7, 0);
        read(seven + "s", -1000140, 3);
        read(seven + "d99", -1000140, 3);
        read(seven + "x", -1000140, 1);
        read(seven + "\u00e9", -1000140, 1);
    }

    private static void benchInPlaceOfAnother() {
        SunBench x = told("b0,9;s0,1;s3,2;");
        x.june(1);
        x.hours(3);
        x.snuff(0);
        x.most(2, 0);
        feed(x, "b0,9;");
        due("a fault", x.bench(), -1000105);
        due("men stay", x.count(1), 2);
        due("hour stays", x.count(3), 3);
        due("snuff stays", x.count(4), 1);
        due("acts stay", x.count(6), 5);
        x.most(2, 0);
        feed(x, "b1,2;d5,6;n7,8;a9,1;");
        due("another", x.bench(), 3);
        due("sits", seats(x), 1012);
        due("hour", x.count(3), 0);
        due("snuff", x.count(4), 0);
        due("june", x.count(5), 0);
        due("acts", x.count(6), 0);
        due("undo", x.undo(), STATE);
        for (int man = 0; man < 3; man++) {
            due("warm", x.man(man, 1), 0);
            due("back", x.man(man, 2), NONE);
        }
        due("dinner", x.man(1, 4), 7);
        due("long", x.man(1, 5), 8);
    }

    private static void fault() {
        promise = 8;
        SunBench x = new SunBench();
        due("none", x.fault(), 0);
        feed(x, "b24");
        x.bench();
        due("number", x.fault(), 2);
        feed(x, "b0,0;s0,1;");
        x.bench();
        due("the latest yet", x.fault(), 2);
        x.bench();
        due("token", x.fault(), 1);
    }

    private static void undo() {
        promise = 9;
        SunBench x = told("b0,3;s0,2;s1,3;n2,4;a0,1;");
        due("none", x.undo(), STATE);
        x.hours(2);
        x.snuff(2);
        x.june(1);
        x.leave(2);
        x.come(2);
        due("acts", x.count(6), 6);
        long sat = seats(x);
        due("come", x.undo(), 5);
        due("away", x.come(2) >= 0 ? seats(x) : 0, sat);
        x.undo();
        due("leave", x.undo(), 4);
        due("he sits", x.man(2, 0) >= 0 ? 1 : 0, 1);
        due("june", x.undo(), 3);
        due("no june", x.count(5), 0);
        due("snuff", x.undo(), 2);
        due("no snuff", x.count(4), 0);
        due("hour", x.undo(), 1);
        due("hour 1", x.count(3), 1);
        due("hour", x.undo(), 0);
        due("hour 0", x.count(3), 0);
        due("as told", seats(x), 10123);
        due("not warm", x.man(0, 1) + x.man(1, 1) + x.man(2, 1) + x.man(3, 1), 0);
        due("none", x.undo(), STATE);
        x.hours(24);
        due("24", x.count(6), 24);
        x.hours(1);
        due("24 at most", x.count(6), 24);
        for (int left = 23; left >= 0; left--) {
            due("undo", x.undo(), left);
        }
        due("the oldest is forgotten", x.undo(), STATE);
        due("hour", x.count(3), 1);
    }

    private static void hours() {
        promise = 10;
        SunBench x = new SunBench();
        due("state ahead of bad", x.hours(0), STATE);
        x = told("b12,1;s5,9;b5,1;");
        due("0", x.hours(0), BAD);
        due("25", x.hours(25), BAD);
        due("-1", x.hours(MIN), BAD);
        due("5", x.hours(5), 3);
        due("dinner", x.hours(1), 2);
        due("an act each", x.count(6), 6);
        due("away", x.hours(8), 2);
        due("back", x.hours(1), 3);
        due("behind", seats(x), 110);
        for (int k = 0; k < 41; k++) {
            due("day", x.hours(24) >= 0 ? 1 : 0, 1);
        }
        due("hour", x.count(3), 999);
        due("above 999", x.hours(1), FULL);
        due("bad ahead of full", x.hours(25), BAD);
        x.undo();
        due("998", x.hours(2), FULL);
        due("999", x.hours(1), 3);
    }

    private static void hoursOfKinds() {
        // SUN in HOUR 0: 2. PLACES 0 1 | 2 .. 6. All are called in HOUR 0.
        SunBench x = told("b0,2;n0,1;d0,2;n0,3;d0,4;b0,5;s0,6;a0,7;");
        // 0 naps in the sun; 1 has sun, goes; 2 is at PLACE 1 then, naps; 3, 4 stay; 5, 6 go
        due("who stays", x.hours(1), 1 + 4 + 8 + 16);
        due("order", seats(x), 10234);
        due("warm", x.man(0, 1) * 10 + x.man(2, 1), 11);
        due("not warm", x.man(3, 1) + x.man(1, 1), 0);
        due("HOUR and LONG", x.man(1, 2), 1);
        due("HOUR and LONG", x.man(6, 2), 6);
        x.hours(2);
        due("to the last place", seats(x), 102341);
        x.hours(4);
        due("nobody yet", seats(x), 1023415);
        x.hours(1);
        // six sit as the admiral comes: PLACE 3
        due("to half", seats(x), 10236415);

        // both admirals are back by HOUR 2: 1 to half of 3, then 3 to half of 4
        x = told("b12,0;b9,1;a1,1;b9,1;a0,2;b9,1;");
        x.hours(2);
        due("away", seats(x), 1024);
        x.hours(1);
        due("by numbers", seats(x), 101324);

        // by PLACES, not by numbers: the doctor 0 sits behind the sitter 1, who gives him sun by going
        x = told("b0,1;d0,1;s0,1;");
        x.snuff(1);
        due("both go", x.hours(1), 0);
        x = told("b0,1;s1,1;d0,1;");
        due("no sun, no dinner", x.hours(1), 3);
        // back ahead of calls: who comes gives no sun, but the one ahead of him, going, does
        x = told("b1,1;s0,1;d1,1;");
        x.hours(1);
        due("alone", seats(x), 11);
        due("doctor goes, the other is back", x.hours(1), 1);
        due("warm as he moved up", x.man(0, 1), 1);
        // over midnight
        x = told("b23,2;s23,3;b0,1;");
        x.hours(24);
        due("away", x.man(0, 2), 2);
        due("warm", x.man(1, 1), 1);
        x.hours(2);
        due("not yet", seats(x), 11);
        x.hours(1);
        due("back", seats(x), 110);
        due("sun of two from 23 on, of one at 0", x.man(1, 1), 2);
    }

    private static void hoursInJune() {
        SunBench x = told("b0,2;n0,1;n0,2;d0,3;s0,4;d0,5;b0,6;");
        x.june(1);
        // sun at PLACES 4, 5: 0 goes; 1 is at 0 of 5, sun from 3 on: goes; 2 is at 0 of 4, sun from 2 on: stays;
        // 3 goes; 4 is at 1 of 3, sun from 1 on: goes; 5 stays
        due("who stays", x.hours(1), 4 + 32);
        due("order", seats(x), 125);
        due("warm: two of two", x.man(2, 1) * 10 + x.man(5, 1), 11);
        x = told("b0,1;b0,1;b0,1;b0,1;");
        x.june(1);
        x.hours(1);
        due("the last one", x.man(0, 1) + x.man(1, 1) * 10 + x.man(2, 1) * 100, 100);
        x.leave(2);
        x.june(0);
        x.hours(23);
        x.june(1);
        x.hours(1);
        due("the last one who sits", x.man(0, 1) + x.man(1, 1) * 10 + x.man(2, 1) * 100, 110);
    }

    private static void snuff() {
        promise = 11;
        SunBench x = new SunBench();
        due("no bench", x.snuff(0), BAD);
        x = told("b0,0;s0,2;b0,1;b0,1;");
        due("man", x.snuff(3), BAD);
        due("man", x.snuff(-1), BAD);
        due("at 0", x.snuff(0), STATE);
        due("2", x.snuff(2), 1);
        due("order", seats(x), 1021);
        due("2", x.snuff(2), 0);
        due("order", seats(x), 1201);
        due("at 0", x.snuff(2), STATE);
        due("snuff", x.count(4), 2);
        due("acts", x.count(6), 2);
        x.hours(1);
        due("at dinner", x.snuff(0), STATE);
        x.leave(1);
        due("away", x.snuff(1), STATE);
    }

    private static void leave() {
        promise = 12;
        SunBench x = new SunBench();
        due("no bench", x.leave(0), BAD);
        x = told("b0,0;s0,2;b0,1;b0,1;");
        due("man", x.leave(3), BAD);
        due("man", x.leave(-1), BAD);
        due("1", x.leave(1), 2);
        due("all move up", seats(x), 102);
        due("again", x.leave(1), STATE);
        x.hours(1);
        due("at dinner", x.leave(0), 1);
        due("not at dinner any more", x.man(0, 2), NONE);
        x.hours(9);
        due("for good", seats(x), 12);
        due("acts", x.count(6), 12);
    }

    private static void come() {
        promise = 13;
        SunBench x = new SunBench();
        due("no bench", x.come(0), BAD);
        x = told("b0,0;a0,2;b0,1;b0,1;");
        due("man", x.come(3), BAD);
        due("man", x.come(-1), BAD);
        due("he sits", x.come(0), STATE);
        x.leave(0);
        due("an admiral too: the last place", x.come(0), 2);
        due("order", seats(x), 1120);
        x.hours(1);
        due("at dinner", x.come(0), STATE);
        x.leave(0);
        due("comes ahead of his dinner's end", x.come(0), 2);
        x.hours(9);
        due("not back twice", seats(x), 1120);
    }

    private static void june() {
        promise = 14;
        SunBench x = new SunBench();
        due("state ahead of bad", x.june(2), STATE);
        x = told("b1,2;s0,1;s5,1;s5,1;");
        due("2", x.june(2), BAD);
        due("-1", x.june(-1), BAD);
        due("it is so", x.june(0), STATE);
        due("the last", x.june(1), 4);
        due("june", x.count(5), 1);
        due("it is so", x.june(1), STATE);
        x.hours(1);
        due("two of two", x.june(0), 6);
        due("acts", x.count(6), 3);
    }

    private static void man() {
        promise = 15;
        SunBench x = new SunBench();
        due("no bench", x.man(0, 0), BAD);
        x = told("b0,1;s0,3;b7,1;");
        due("man", x.man(2, 0), BAD);
        due("man", x.man(-1, 0), BAD);
        due("what", x.man(0, 6), BAD);
        due("what", x.man(0, -1), BAD);
        due("sun", x.man(0, 3) * 10 + x.man(1, 3), 10);
        x.hours(1);
        due("place", x.man(0, 0), NONE);
        due("place", x.man(1, 0), 0);
        due("warm", x.man(0, 1), 0);
        due("warm", x.man(1, 1), 1);
        due("back", x.man(0, 2), 2);
        due("back", x.man(1, 2), NONE);
        due("no sun", x.man(1, 3), 0);
        due("dinner", x.man(1, 4), 7);
        due("long", x.man(0, 5), 3);
        x.hours(2);
        due("back in 0, ahead of coming", x.man(0, 2), 0);
        due("does not sit yet", x.man(0, 0), NONE);
        x.leave(1);
        due("place", x.man(1, 0), NONE);
        due("back", x.man(1, 2), NONE);
        due("sun", x.man(1, 3), 0);
        due("warm yet", x.man(1, 1), 1);
    }

    private static void place() {
        promise = 16;
        SunBench x = new SunBench();
        due("state ahead of bad", x.place(7), STATE);
        x = told("b0,1;s0,3;b7,1;");
        due("0", x.place(0), 0);
        due("1", x.place(1), 1);
        due("2", x.place(2), NONE);
        due("6", x.place(6), NONE);
        due("7", x.place(7), BAD);
        due("-1", x.place(-1), BAD);
        x.hours(1);
        due("moved up", x.place(0), 1);
        due("nobody", x.place(1), NONE);
    }

    private static void sun() {
        promise = 17;
        SunBench x = new SunBench();
        due("state ahead of bad", x.sun(24), STATE);
        x = told("b22,5;s0,1;s0,1;s0,1;s0,1;s0,1;s0,1;s0,1;");
        int[] wide = {3, 2, 1, 0, 0, 0, 0, 0, 0, 0, 0, 0, 0, 0, 0, 0, 0, 0, 1, 2, 3, 4, 5, 4};
        for (int h = 0; h < 24; h++) {
            due("sun " + h, x.sun(h), wide[h]);
        }
        due("24", x.sun(24), BAD);
        due("-1", x.sun(-1), BAD);
        x.june(1);
        due("in June", x.sun(0), 3);
    }

    private static void ahead() {
        promise = 18;
        SunBench x = new SunBench();
        due("no bench", x.ahead(0, 0, 0), BAD);
        x = told("b0,1;s0,3;b7,1;");
        due("man", x.ahead(2, 0, 0), BAD);
        due("n", x.ahead(0, -1, 0), BAD);
        due("n", x.ahead(0, 61, 0), BAD);
        due("what", x.ahead(0, 0, 2), BAD);
        due("what", x.ahead(0, 0, -1), BAD);
        due("now", x.ahead(0, 0, 0), 0);
        due("at dinner", x.ahead(0, 1, 0), NONE);
        due("at dinner", x.ahead(0, 3, 0), NONE);
        due("back", x.ahead(0, 4, 0), 1);
        due("warm", x.ahead(1, 0, 1), 0);
        due("warm", x.ahead(1, 1, 1), 1);
        due("warm in HOURS 0, 24, 48", x.ahead(1, 60, 1), 3);
        due("nothing changes", x.count(3) + x.count(6) + x.man(1, 1), 0);
        due("nothing changes", seats(x), 101);
    }

    private static void sunny() {
        promise = 19;
        SunBench x = new SunBench();
        due("no bench", x.sunny(0), BAD);
        x = told("b0,1;s0,3;b7,1;d3,1;");
        due("man", x.sunny(3), BAD);
        due("now", x.sunny(0), 0);
        due("behind a day: 0 went, 1 is ahead", x.sunny(1), 24);
        due("never", x.sunny(2), NONE);
        x = told("b12,1;b0,1;");
        x.hours(13);
        due("23", x.sunny(0), 23);
        x = told("b12,1;s12,1;b0,1;");
        due("ahead of the call", x.sunny(0), 12);
        // the sitter goes in HOUR 13, the doctor, in the sun by that, in HOUR 36, behind the bore's look at it
        x = told("b12,1;s13,1;d12,1;b0,1;");
        due("60 at most", x.sunny(2), 60);
        x = told("b13,1;s14,1;d13,1;b0,1;");
        due("not 61", x.sunny(2), NONE);
        x = told("b0,0;b0,1;");
        due("no sun at all", x.sunny(0), NONE);
        x.leave(0);
        due("away", x.sunny(0), NONE);
    }

    private static void most() {
        promise = 20;
        SunBench x = new SunBench();
        due("state ahead of bad", x.most(61, 2), STATE);
        x = told("b0,2;s0,3;b7,1;b7,1;");
        due("n", x.most(-1, 0), BAD);
        due("n", x.most(61, 0), BAD);
        due("what", x.most(1, 2), BAD);
        due("what", x.most(1, -1), BAD);
        due("the first of all", x.most(0, 0), 0);
        due("none is warm", x.most(0, 1), 0);
        due("1 and 2 are alike", x.most(1, 0), 1);
        due("warm", x.most(1, 1), 1);
        due("60", x.most(60, 1), 8);
        due("nothing changes", x.count(3), 0);
    }

    private static void leastSnuff() {
        promise = 21;
        SunBench x = new SunBench();
        due("no bench", x.leastSnuff(0, 1, 1), BAD);
        x = told("b0,2;b7,3;b7,1;b7,1;s0,1;");
        due("man", x.leastSnuff(4, 1, 1), BAD);
        due("n", x.leastSnuff(0, 0, 1), BAD);
        due("n", x.leastSnuff(0, 61, 1), BAD);
        due("w", x.leastSnuff(0, 1, 0), BAD);
        due("w", x.leastSnuff(0, 1, 61), BAD);
        due("none needed", x.leastSnuff(1, 1, 1), 0);
        due("one", x.leastSnuff(2, 1, 1), 1);
        due("two for the sun of HOURS 0, 1", x.leastSnuff(2, 2, 2), 2);
        due("none is enough", x.leastSnuff(2, 2, 3), NONE);
        due("who is called", x.leastSnuff(3, 1, 1), NONE);
        due("more than that", x.leastSnuff(0, 60, 1), 0);
        due("nothing changes", seats(x), 10123);
        due("no snuff", x.count(4), 0);
        x.hours(1);
        due("by so much more", x.leastSnuff(0, 1, 2), NONE);
        due("at dinner", x.leastSnuff(3, 1, 1), STATE);
        due("bad ahead of state", x.leastSnuff(3, 0, 1), BAD);
        x.leave(0);
        due("away", x.leastSnuff(0, 1, 1), STATE);
    }

    private static void whenToCome() {
        promise = 22;
        SunBench x = new SunBench();
        due("no bench", x.whenToCome(0, 1, 0), BAD);
        x = told("b4,1;s3,9;b7,1;s4,1;");
        due("he sits", x.whenToCome(2, 1, 0), STATE);
        x.leave(2);
        due("man", x.whenToCome(3, 1, 0), BAD);
        due("n", x.whenToCome(2, 0, 0), BAD);
        due("n", x.whenToCome(2, 41, 0), BAD);
        due("what", x.whenToCome(2, 1, 2), BAD);
        due("what", x.whenToCome(2, 1, -1), BAD);
        due("never warm: the first", x.whenToCome(2, 40, 0), 0);
        due("never warm", x.whenToCome(2, 40, 1), 0);
        x.leave(0);
        x.leave(1);
        x.come(2);
        x.leave(2);
        due("alone he is called in the sun", x.whenToCome(2, 5, 1), 0);
        x = told("b4,2;s3,2;b7,1;");
        x.leave(0);
        x.leave(1);
        due("0: away in HOURS 3, 4", x.whenToCome(0, 6, 1), 2);
        due("behind HOUR 3", x.whenToCome(0, 6, 0), 4);
        due("of one who is warm always", x.whenToCome(1, 6, 0), 0);
        due("HOURS 3, 4, 5", x.whenToCome(1, 6, 1), 3);
        due("nothing changes", x.count(2) + x.count(3), 0);
        x.come(1);
        due("bad ahead of state", x.whenToCome(1, 41, 0), BAD);
        x.hours(4);
        x.leave(1);
        due("by how much more", x.whenToCome(1, 2, 1), 2);
    }

    private static void rang() {
        promise = 23;
        SunBench x = new SunBench();
        due("state ahead of bad", x.rang(8, 0, 0), STATE);
        x = told("b0,0;s0,1;s1,1;s2,1;");
        x.row(0, 1, 13);
        due("row", x.rang(8, 0, 1), BAD);
        due("row", x.rang(-1, 0, 1), BAD);
        due("n", x.rang(0, 0, 0), BAD);
        due("n", x.rang(0, 0, 13), BAD);
        due("bad ahead of null", x.rang(1, 0, 13), BAD);
        due("null", x.rang(1, -1, 1), NULL);
        due("status", x.status(), 1);
        due("place", x.rang(0, -1, 1), PLACE);
        due("place", x.rang(0, 2, 12), PLACE);
        due("place", x.rang(0, MAX, 12), PLACE);
        due("status", x.status(), 2);
        x.set(0, 1, 2);
        // behind HOUR 0 two sit as it is; with 0 at 23 three; with 1 at 0 one; with 2 at 1 two
        due("as it is, or 2", x.rang(0, 1, 1), 128 + 4);
        due("status", x.status(), 0);
        x.set(0, 1, 3);
        due("0: 23", x.rang(0, 1, 1), 1);
        x.set(0, 1, 1);
        due("1", x.rang(0, 1, 1), 2);
        x.set(0, 2, 3);
        due("1, then both are back", x.rang(0, 1, 2), 2);
        x.set(0, 1, 2);
        x.set(0, 2, 1);
        due("2", x.rang(0, 1, 2), 4);
        x.set(0, 2, 0);
        due("none", x.rang(0, 1, 2), 0);
        due("nothing changes", x.count(3), 0);
        due("nothing changes", x.man(0, 4) * 100 + x.man(1, 4) * 10 + x.man(2, 4), 12);
        for (int i = 0; i < 12; i++) {
            x.set(0, i, i < 3 ? 2 : 3);
        }
        due("twelve", x.rang(0, 0, 12), 128);
    }

    private static void who() {
        promise = 24;
        SunBench x = new SunBench();
        due("no bench", x.who(0, 0, 0, 1), BAD);
        x = told("b0,1;s0,1;s0,2;b1,1;");
        x.row(0, 0, 13);
        due("man", x.who(3, 0, 0, 1), BAD);
        due("row", x.who(0, 8, 0, 1), BAD);
        due("n", x.who(0, 0, 0, 0), BAD);
        due("n", x.who(0, 0, 0, 13), BAD);
        due("null", x.who(0, 1, 99, 1), NULL);
        due("place", x.who(0, 0, 13, 1), PLACE);
        due("place", x.who(0, 0, -1, 1), PLACE);
        due("status", x.status(), 2);
        // 0 at PLACE 0 in the sun: a sitter, an admiral, a doctor goes; a napper, a bore stays
        due("stays", x.who(0, 0, 0, 1), 4 + 16);
        due("status", x.status(), 0);
        x.set(0, 0, -1);
        due("goes", x.who(0, 0, 0, 1), 2 + 8 + 32);
        // one sits then (2, a bore): an admiral comes to half of 1, the others to the last
        x.set(0, 1, 0);
        due("an admiral", x.who(0, 0, 0, 2), 8);
        x.set(0, 1, 1);
        due("the others", x.who(0, 0, 0, 2), 2 + 32);
        x.set(0, 0, 7);
        due("none", x.who(0, 0, 0, 1), 0);
        due("nothing changes", x.kind(0) * 10 + x.count(3), 10);
        x.leave(2);
        x.set(0, 0, -1);
        x.set(0, 1, -1);
        due("all: he is away for good", x.who(2, 0, 0, 2), 62);
    }

    private static void elm() {
        promise = 25;
        SunBench x = new SunBench();
        due("state ahead of bad", x.elm(0), STATE);
        x = told("b0,2;b1,1;b1,1;b1,1;");
        due("n", x.elm(0), BAD);
        due("n", x.elm(61), BAD);
        due("1 only", x.elm(1), 2);
        due("0 in HOUR 1", x.elm(2), 3);
        x.leave(0);
        due("2 is at PLACE 1", x.elm(1), 4);
        x = told("b0,0;b1,1;");
        due("no sun to take", x.elm(60), 0);
        // with less sun the doctor stays, and the sitter behind him is less warm
        x = told("b0,1;d0,9;b1,1;");
        due("1", x.elm(1), 2);
        due("nothing changes", x.sun(0), 1);
        // with less sun the doctor stays, and is warm an HOUR later: more, not less
        x = told("b1,3;b9,1;d0,9;");
        due("nobody", x.elm(2), 0);
    }

    private static void lasts() {
        promise = 26;
        SunBench x = new SunBench();
        due("no bench", x.lasts(), STATE);
        for (int wide = 0; wide <= 9; wide++) {
            x = told("b20," + wide + ";b1,1;");
            due("wide " + wide, x.lasts(), wide == 0 ? 0 : 2 * wide - 1);
            x.hours(7);
            due("later", x.lasts(), wide == 0 ? 0 : 2 * wide - 1);
        }
    }

    private static void wager() {
        promise = 27;
        SunBench x = new SunBench();
        due("no bench", x.wager(0, 1, 1), BAD);
        x = told("b0,2;b1,1;b1,1;b1,1;");
        due("man", x.wager(3, 0, 1), BAD);
        due("other", x.wager(0, 3, 1), BAD);
        due("alike", x.wager(1, 1, 1), BAD);
        due("n", x.wager(0, 1, 0), BAD);
        due("n", x.wager(0, 1, 61), BAD);
        due("even", x.wager(0, 1, 1), 1000);
        due("more", x.wager(0, 2, 2), 1002);
        due("less", x.wager(2, 0, 2), 998);
        x.hours(2);
        due("with what was", x.wager(0, 2, 1), 1002);
    }

    private static void calls() {
        promise = 28;
        SunBench x = new SunBench();
        due("state ahead of bad", x.calls(0), STATE);
        x = told("b0,2;s0,1;b0,1;n0,1;d0,1;a1,1;");
        due("n", x.calls(0), BAD);
        due("n", x.calls(61), BAD);
        // 0 goes; 2 is at 1, in the sun; 3 is at 2, not
        due("1", x.calls(1), 1);
        due("the admiral too", x.calls(2), 2);
        due("a day and an HOUR", x.calls(24), 2);
        due("nothing changes", x.count(3), 0);
    }

    private static void late(SunBench x, int man, int p, long above, long below) {
        due("late above " + man + " " + p, x.late(man, p, 0), above);
        due("late below " + man + " " + p, x.late(man, p, 1), below);
    }

    private static void late() {
        promise = 29;
        SunBench x = new SunBench();
        due("no bench", x.late(0, 0, 0), BAD);
        x = told("b0,1;s0,1;s0,1;s0,1;b0,1;");
        due("man", x.late(4, 0, 0), BAD);
        due("p", x.late(0, -1, 0), BAD);
        due("p", x.late(0, 11, 0), BAD);
        due("what", x.late(0, 0, 2), BAD);
        due("what", x.late(0, 0, -1), BAD);
        late(x, 0, 0, 0, 1);
        late(x, 0, 10, 1, 1);
        late(x, 0, 4, 2, 5);
        late(x, 1, 4, 6, 25);
        late(x, 2, 5, 1, 8);
        late(x, 3, 5, 1, 8);
        late(x, 3, 1, 729, 1000);
        late(x, 3, 0, 1, 1);
        late(x, 3, 10, 0, 1);
        x.hours(1);
        // all three are back by HOUR 1, behind the bore; nobody is due then
        late(x, 3, 5, 0, 1);
        x = told("b0,9;s0,1;s0,1;s0,1;s0,1;s0,1;s0,1;s0,1;");
        late(x, 6, 3, 3, 10);
        x = told("b0,1;s0,1;s0,1;s0,1;s0,1;s0,1;s0,1;s0,1;");
        late(x, 6, 1, 531441, 10000000);
        due("nothing changes", x.count(2), 127);
        // a doctor is called, or not, in the sun that the one ahead leaves him, or does not
        x = told("b0,1;s0,1;d0,1;b0,1;");
        late(x, 1, 5, 1, 4);
        late(x, 2, 5, 1, 4);
    }

    private static void drawn() {
        promise = 30;
        SunBench x = new SunBench();
        due("state ahead of bad", x.drawn(61, 0, 2), STATE);
        x = told("b0,1;b1,1;b1,1;b1,1;");
        due("n", x.drawn(-1, 1, 0), BAD);
        due("n", x.drawn(61, 1, 0), BAD);
        due("seed", x.drawn(1, 0, 0), BAD);
        due("seed", x.drawn(1, 1000000, 0), BAD);
        due("what", x.drawn(1, 1, 2), BAD);
        due("what", x.drawn(1, 1, -1), BAD);
        due("none", x.drawn(0, 999999, 0), 0);
        // 16807 by 3 leaves 1; 282475249 by 3 leaves 1; 1622650073 by 3 leaves 2
        due("1 takes snuff", x.drawn(1, 1, 0), 1);
        due("1 is at PLACE 0 then", x.drawn(2, 1, 0), 1);
        due("2 takes snuff", x.drawn(3, 1, 0), 2);
        due("warm", x.drawn(1, 1, 1), 1);
        x.hours(1);
        due("what was, too", x.drawn(1, 1, 1), 1);
        x.snuff(2);
        due("how often in them", x.drawn(1, 1, 0), 1);
        due("nothing changes", x.count(4), 1);
        due("nothing changes", seats(x), 1021);
        x.leave(1);
        due("who does not sit takes none", x.drawn(2, 1, 0), 0);
    }

    private static void image() {
        promise = 31;
        SunBench x = new SunBench();
        due("bad ahead of state", x.image(2), BAD);
        due("no bench", x.image(0), STATE);
        x = told("b0,1;b1,1;");
        due("-1", x.image(-1), BAD);
        due("0", x.image(0), 1);
        due("1", x.image(1), 1);
        x.hours(3);
        due("again", x.image(1), 1);
        due("acts stay", x.count(6), 3);
        x.restore(0);
        due("0", x.count(3), 0);
        x.restore(1);
        due("1", x.count(3), 3);
    }

    private static void restore() {
        promise = 32;
        SunBench x = told("b0,3;s0,2;b1,1;n1,2;");
        due("2", x.restore(2), BAD);
        due("-1", x.restore(-1), BAD);
        due("none", x.restore(0), STATE);
        x.hours(1);
        x.snuff(2);
        x.june(1);
        x.image(0);
        long sat = seats(x);
        x.june(0);
        x.hours(5);
        x.leave(1);
        due("restored", x.restore(0), 1);
        due("sits", seats(x), sat);
        due("hour", x.count(3), 1);
        due("snuff", x.count(4), 1);
        due("june", x.count(5), 1);
        due("no act", x.undo(), STATE);
        due("back", x.man(0, 2), 1);
        due("warm", x.man(1, 1), 1);
        x.hours(2);
        due("again", x.restore(0), 1);
        due("hour", x.count(3), 1);
        feed(x, "b5,1;d4,3;");
        x.bench();
        due("of the bench before", x.restore(0), 1);
        due("men", x.count(1), 3);
        due("sun", x.sun(0), 3);
        due("dinner", x.man(2, 4), 1);
        due("kind", x.kind(2), 2);
        due("the other", x.restore(1), STATE);
    }

    private static void kind() {
        promise = 33;
        SunBench x = new SunBench();
        due("no bench", x.kind(0), BAD);
        x = told("b0,0;s0,1;n0,1;a0,1;b0,1;d0,1;");
        for (int man = 0; man < 5; man++) {
            due("kind", x.kind(man), man + 1);
        }
        due("5", x.kind(5), BAD);
        due("-1", x.kind(-1), BAD);
    }

    private static void as() {
        promise = 34;
        SunBench x = new SunBench();
        due("no bench", x.as(0, 0), BAD);
        x = told("b0,0;s0,1;n0,1;a0,1;b0,1;d0,1;");
        int[] is = {0b000011, 0b000111, 0b001011, 0b010001, 0b110001};
        for (int man = 0; man < 5; man++) {
            for (int kind = 0; kind < 6; kind++) {
                boolean fits = (is[man] >> kind & 1) == 1;
                due("as " + man + " " + kind, x.as(man, kind), fits ? man : KIND);
                due("status", x.status(), fits ? 0 : 3);
            }
        }
        due("6", x.as(0, 6), BAD);
        due("-1", x.as(0, -1), BAD);
        due("man", x.as(5, 0), BAD);
    }

    private static void asked(SunBench x, int one, int what, int answer, int... bodies) {
        due("ask " + one + " " + what, x.ask(one, what), answer);
        for (int i = 0; i < bodies.length; i++) {
            due("trace " + i + " of " + one + " " + what, x.trace(i), bodies[i]);
        }
        due("trace's end of " + one + " " + what, x.trace(bodies.length), NONE);
    }

    private static void ask() {
        promise = 35;
        SunBench x = new SunBench();
        due("no bench", x.ask(0, 0), BAD);
        x = told("b0,9;s10,1;n11,1;a12,1;b13,1;d14,1;");
        x.hours(1);
        asked(x, 0, 0, 1 + 10, 11, 10, 21, 20);
        asked(x, 1, 0, -(1 + 2 * (1 + 11)), 12, 11, 10, 24, 21, 20);
        asked(x, 2, 0, 1 + 2 + 12 - 1000, 11, 10, 22, 21, 20);
        asked(x, 3, 0, 1 - 100, 13, 10);
        asked(x, 4, 0, (1 - 100) * 2, 14, 13, 10);
        asked(x, 0, 1, 10, 21, 20);
        asked(x, 1, 1, 24, 24, 21, 20);
        asked(x, 2, 1, 2 + 12 - 1000, 22, 21, 20);
        asked(x, 3, 1, 3 + 99, 23, 20, 13, 10);
        asked(x, 4, 1, 4 + 198, 23, 20, 14, 13, 10);
        due("what", x.ask(0, 2), BAD);
        due("what", x.ask(0, -1), BAD);
        due("man", x.ask(5, 0), BAD);
        due("the trace stays", x.trace(4), 10);
    }

    private static void trace() {
        promise = 36;
        SunBench x = told("b0,9;s10,1;");
        due("none", x.trace(0), NONE);
        x.ask(0, 0);
        due("0", x.trace(0), 11);
        due("3", x.trace(3), 20);
        due("4", x.trace(4), NONE);
        due("-1", x.trace(-1), NONE);
        due("16", x.trace(16), NONE);
        due("far", x.trace(MAX), NONE);
        due("far", x.trace(MIN), NONE);
        x.hours(1);
        due("it stays", x.trace(0), 11);
        x.ask(0, 1);
        due("empty ahead of an ask", x.trace(2), NONE);
    }

    private static void count() {
        promise = 37;
        SunBench x = told("b0,9;s0,2;b0,1;b0,1;");
        due("-1", x.count(-1), BAD);
        due("8", x.count(8), BAD);
        x.row(0, 0, 0);
        x.row(5, 0, 1);
        x.hours(1);
        x.snuff(2);
        x.june(1);
        x.feed(0);
        int[] wanted = {2, 3, 6, 1, 1, 1, 3, 1};
        for (int what = 0; what < 8; what++) {
            due("count " + what, x.count(what), wanted[what]);
        }
    }

    private static void status() {
        promise = 38;
        SunBench x = told("b0,9;s0,2;");
        x.row(0, 0, -1);
        due("size", x.status(), 4);
        x.row(8, 0, 1);
        x.set(8, 0, 0);
        x.hours(1);
        x.as(0, 9);
        x.feed(1);
        due("yet", x.status(), 4);
        x.row(0, 0, 1);
        due("none", x.status(), 0);
        x.set(1, 0, 0);
        due("null", x.status(), 1);
        x.set(0, 0, 0);
        due("none", x.status(), 0);
        x.set(0, 1, 0);
        due("place", x.status(), 2);
        x.as(0, 1);
        due("none", x.status(), 0);
        x.as(0, 2);
        due("kind", x.status(), 3);
        x.kind(0);
        x.ask(0, 0);
        x.status();
        due("kind yet", x.status(), 3);
        x.drop(0);
        due("none", x.status(), 0);
        x.drop(0);
        due("null", x.status(), 1);
        x.row(0, 0, 1);
        x.row(1, 1, 1);
        x.copy(0, 0, 1, 0, 1);
        due("store", x.status(), 5);
        x.rang(0, 0, 1);
        due("none", x.status(), 0);
        x.who(0, 2, 0, 1);
        due("null", x.status(), 1);
        x.rang(0, 0, 0);
        due("bad: as it was", x.status(), 1);
        x = new SunBench();
        x.drop(0);
        x.rang(0, 0, 1);
        due("state: as it was", x.status(), 1);
    }
}
