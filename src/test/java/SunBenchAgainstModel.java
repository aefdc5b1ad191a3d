import java.math.BigInteger;
import java.util.ArrayDeque;
import java.util.ArrayList;
import java.util.Arrays;
import java.util.Deque;
import java.util.HashMap;
import java.util.HashSet;
import java.util.List;
import java.util.Map;
import java.util.Random;
import java.util.Set;
import java.util.TreeMap;

/**
 * Long runs of calls, drawn from fixed seeds, on the class and on a slow model written apart from it,
 * with wrong and extreme arguments among them: every answer must be the same, and none may throw.
 */
public final class SunBenchAgainstModel {
    private static final int NONE = -1000000, BAD = -1000001, STATE = -1000002, FULL = -1000003;
    private static final int RUNS = 1500, CALLS = 512;
    // More than a text that is drawn has bytes, or a row that is told has ITEMS.
    private static final int MOST_AT_ONCE = 100;
    private static int made = 0;

    private static final String[] NAMES = {"row", "set", "copy", "drop", "feed", "bench", "fault", "undo", "hours",
        "snuff", "leave", "come", "june", "man", "place", "sun", "ahead", "sunny", "most", "leastSnuff", "whenToCome",
        "rang", "who", "elm", "lasts", "wager", "calls", "late", "drawn", "image", "restore", "kind", "as", "ask",
        "trace", "count", "status"};

    public static void main(String[] args) {
        int wrong = 0;
        Map<String, Integer> refused = new TreeMap<>();
        Map<String, Integer> answered = new TreeMap<>();
        for (int run = 0; run < RUNS && wrong < 20; run++) {
            Random draws = new Random(run);
            SunBench x = new SunBench();
            Model model = new Model();
            made = 0;
            while (made < CALLS) {
                boolean hasRoom = made + MOST_AT_ONCE < CALLS;
                String name = NAMES[draws.nextInt(NAMES.length)];
                if (hasRoom && (draws.nextInt(40) == 0 || made == 0)) {
                    for (char c : drawText(draws).toCharArray()) {
                        real(x, "feed", new int[] {c});
                        model.feed(c);
                    }
                    name = "bench";
                }
                int[] a = drawArguments(name, draws, model);
                boolean isTold = name.equals("rang") || name.equals("who");
                if (isTold && hasRoom && model.men() > 0 && draws.nextBoolean()) {
                    tellLikely(x, model, name, a, draws);
                }
                long due = model.call(name, a);
                long got = real(x, name, a);
                (due > -1000000 ? answered : refused).merge(name, 1, Integer::sum);
                if (got != due) {
                    wrong++;
                    System.out.println("run " + run + " call " + made + ": " + name + Arrays.toString(a)
                        + " answered " + got + ", due is " + due);
                    break;
                }
            }
        }
        for (String name : NAMES) {
            if (answered.getOrDefault(name, 0) < 100) {
                wrong++;
                System.out.println(name + " was seldom answered: " + answered.get(name));
            }
        }
        System.out.println(RUNS + " runs, " + wrong + " wrong");
        if (wrong != 0) {
            System.exit(1);
        }
    }

    private static String drawText(Random r) {
        StringBuilder text = new StringBuilder();
        int busy = r.nextInt(24);
        text.append('b').append(r.nextInt(3) == 0 ? r.nextInt(24) : busy).append(',').append(r.nextInt(10)).append(';');
        int men = 1 + r.nextInt(7) + (r.nextInt(20) == 0 ? 3 : 0);
        for (int i = 0; i < men; i++) {
            int dinner = r.nextInt(3) == 0 ? r.nextInt(24) : (busy + r.nextInt(3)) % 24;
            text.append("snabd".charAt(r.nextInt(5))).append(r.nextInt(5) == 0 && dinner < 10 ? "0" : "").append(dinner);
            text.append(',').append(1 + r.nextInt(9)).append(';');
        }
        if (r.nextInt(4) == 0) {
            int at = r.nextInt(text.length());
            char other = "bsn0129,;x \u00ff".charAt(r.nextInt(12));
            switch (r.nextInt(4)) {
                case 0: text.deleteCharAt(at); break;
                case 1: text.insert(at, other); break;
                case 2: text.setLength(at); break;
                default: text.setCharAt(at, other); break;
            }
        }
        return text.toString();
    }

    private static final int[] EXTREMES = {-1, Integer.MIN_VALUE, Integer.MAX_VALUE, 8, 24, 25, 41, 61, 13, 256,
        1000000, -1000000, 2147483607};

    private static int upTo(Random r, int low, int high) {
        return r.nextInt(40) == 0 ? EXTREMES[r.nextInt(EXTREMES.length)] : low + r.nextInt(high - low + 1);
    }

    private static int someMan(Random r, Model m) {
        return upTo(r, 0, Math.max(0, m.men() - 1));
    }

    private static int someRow(Random r, Model m) {
        return upTo(r, 0, r.nextInt(4) == 0 ? 7 : 2);
    }

    private static int[] drawArguments(String name, Random r, Model m) {
        switch (name) {
            case "row": return new int[] {someRow(r, m), upTo(r, 0, 2), upTo(r, -1, 40)};
            case "set": return new int[] {someRow(r, m), upTo(r, 0, 12), r.nextInt(3) == 0 ? r.nextInt() : upTo(r, -1, 7)};
            case "copy": return new int[] {someRow(r, m), upTo(r, 0, 9), someRow(r, m), upTo(r, 0, 9), upTo(r, 0, 9)};
            case "drop": return new int[] {upTo(r, 0, 7)};
            case "feed": return new int[] {upTo(r, 0, 255)};
            case "hours": return new int[] {r.nextInt(3) == 0 ? upTo(r, 1, 24) : upTo(r, 1, 3)};
            case "snuff": case "leave": case "come": case "sunny": case "kind": return new int[] {someMan(r, m)};
            case "june": case "image": case "restore": return new int[] {upTo(r, 0, 1)};
            case "man": return new int[] {someMan(r, m), upTo(r, 0, 5)};
            case "place": return new int[] {upTo(r, 0, 6)};
            case "sun": return new int[] {upTo(r, 0, 23)};
            case "ahead": return new int[] {someMan(r, m), upTo(r, 0, 60), upTo(r, 0, 1)};
            case "most": return new int[] {upTo(r, 0, 60), upTo(r, 0, 1)};
            case "leastSnuff": return new int[] {someMan(r, m), upTo(r, 1, 60), upTo(r, 1, r.nextBoolean() ? 5 : 60)};
            case "whenToCome": return new int[] {someMan(r, m), upTo(r, 1, 40), upTo(r, 0, 1)};
            case "rang": return new int[] {someRow(r, m), upTo(r, 0, 9), upTo(r, 1, 12)};
            case "who": return new int[] {someMan(r, m), someRow(r, m), upTo(r, 0, 9), upTo(r, 1, 12)};
            case "elm": case "calls": return new int[] {upTo(r, 1, 60)};
            case "wager": return new int[] {someMan(r, m), someMan(r, m), upTo(r, 1, 60)};
            case "late": return new int[] {someMan(r, m), upTo(r, 0, 10), upTo(r, 0, 1)};
            case "drawn": return new int[] {upTo(r, 0, 60), upTo(r, 1, 999999), upTo(r, 0, 1)};
            case "as": return new int[] {someMan(r, m), upTo(r, 0, 5)};
            case "ask": return new int[] {someMan(r, m), upTo(r, 0, 1)};
            case "trace": return new int[] {upTo(r, 0, 16)};
            case "count": return new int[] {upTo(r, 0, 7)};
            default: return new int[0];
        }
    }

    /** A row that is so, for one change of one man: else hardly any row that is drawn would ever be. */
    private static void tellLikely(SunBench x, Model m, String name, int[] a, Random r) {
        boolean isWho = name.equals("who");
        int man = isWho && a[0] >= 0 && a[0] < m.men() ? a[0] : r.nextInt(m.men());
        Told t = m.now.wall.men.get(man);
        Told other = isWho ? new Told("snabd".charAt(r.nextInt(5)), t.dinner, t.lasting)
            : new Told(t.sort, (t.dinner + 23 + r.nextInt(2)) % 24, t.lasting);
        Time time = m.now.with(m.now.wall.with(man, other));
        int row = isWho ? a[1] : a[0];
        int from = isWho ? a[2] : a[1];
        int[] made = {row, r.nextInt(3), 30};
        real(x, "row", made);
        m.call("row", made);
        for (int k = 0; k < 12 && from >= 0 && from < 10; k++) {
            time = time.behind(1);
            int[] set = {row, from + k, isWho ? time.sit.indexOf(man) : time.sit.size()};
            real(x, "set", set);
            m.call("set", set);
        }
    }

    private static long real(SunBench x, String name, int[] a) {
        made++;
        switch (name) {
            case "row": return x.row(a[0], a[1], a[2]);
            case "set": return x.set(a[0], a[1], a[2]);
            case "copy": return x.copy(a[0], a[1], a[2], a[3], a[4]);
            case "drop": return x.drop(a[0]);
            case "feed": return x.feed(a[0]);
            case "bench": return x.bench();
            case "fault": return x.fault();
            case "undo": return x.undo();
            case "hours": return x.hours(a[0]);
            case "snuff": return x.snuff(a[0]);
            case "leave": return x.leave(a[0]);
            case "come": return x.come(a[0]);
            case "june": return x.june(a[0]);
            case "man": return x.man(a[0], a[1]);
            case "place": return x.place(a[0]);
            case "sun": return x.sun(a[0]);
            case "ahead": return x.ahead(a[0], a[1], a[2]);
            case "sunny": return x.sunny(a[0]);
            case "most": return x.most(a[0], a[1]);
            case "leastSnuff": return x.leastSnuff(a[0], a[1], a[2]);
            case "whenToCome": return x.whenToCome(a[0], a[1], a[2]);
            case "rang": return x.rang(a[0], a[1], a[2]);
            case "who": return x.who(a[0], a[1], a[2], a[3]);
            case "elm": return x.elm(a[0]);
            case "lasts": return x.lasts();
            case "wager": return x.wager(a[0], a[1], a[2]);
            case "calls": return x.calls(a[0]);
            case "late": return x.late(a[0], a[1], a[2]);
            case "drawn": return x.drawn(a[0], a[1], a[2]);
            case "image": return x.image(a[0]);
            case "restore": return x.restore(a[0]);
            case "kind": return x.kind(a[0]);
            case "as": return x.as(a[0], a[1]);
            case "ask": return x.ask(a[0], a[1]);
            case "trace": return x.trace(a[0]);
            case "count": return x.count(a[0]);
            case "status": return x.status();
            default: throw new IllegalStateException(name);
        }
    }

    // ---- the model: nothing in it is changed in place, but the fields of Model

    private interface Asked {
        int number();
        int warmth();
        int dinner();
        List<Integer> trace();
        default int size() { trace().add(10); return warmth(); }
        default int mark() { trace().add(20); return number(); }
    }

    private abstract static class Person implements Asked {
        int number, warmth, dinner;
        List<Integer> trace;
        public int number() { return number; }
        public int warmth() { return warmth; }
        public int dinner() { return dinner; }
        public List<Integer> trace() { return trace; }
    }

    private static class Sitter extends Person {
        public int size() { trace.add(11); return super.size() + mark(); }
        public int mark() { trace.add(21); return super.mark() + dinner; }
    }

    private static class Napper extends Sitter {
        public int size() { trace.add(12); return -super.size(); }
        public int mark() { trace.add(24); return super.mark() * 2; }
    }

    private static class Admiral extends Sitter {
        public int mark() { trace.add(22); return super.mark() - 1000; }
    }

    private static class Bore extends Person {
        public int size() { trace.add(13); return super.size() - 100; }
        public int mark() { trace.add(23); return super.mark() - size(); }
    }

    private static class Doctor extends Bore {
        public int size() { trace.add(14); return super.size() * 2; }
    }

    private static final Class<?>[] CLASSES = {Person.class, Sitter.class, Napper.class, Admiral.class, Bore.class,
        Doctor.class};

    private static Person person(int kind) {
        switch (kind) {
            case 1: return new Sitter();
            case 2: return new Napper();
            case 3: return new Admiral();
            case 4: return new Bore();
            default: return new Doctor();
        }
    }

    private record Told(char sort, int dinner, int lasting) { }

    private record Wall(int noon, int wide, List<Told> men) {
        int sun(int hour) {
            int h = hour % 24;
            int steps = 0;
            while ((noon + steps) % 24 != h && (noon - steps + 24) % 24 != h) {
                steps++;
            }
            return wide > steps ? wide - steps : 0;
        }

        Wall with(int man, Told told) {
            List<Told> changed = new ArrayList<>(men);
            changed.set(man, told);
            return new Wall(noon, wide, changed);
        }
    }

    private record Time(Wall wall, int hour, boolean june, int snuff, List<Integer> sit, List<Integer> warm,
            Map<Integer, Integer> dining, Set<Integer> dead, int went) {

        Time with(List<Integer> nowSit) {
            return new Time(wall, hour, june, snuff, nowSit, warm, dining, dead, went);
        }

        Time with(Wall other) {
            return new Time(other, hour, june, snuff, sit, warm, dining, dead, went);
        }

        Time june(boolean on) {
            return new Time(wall, hour, on, snuff, sit, warm, dining, dead, went);
        }

        Set<Integer> sunny() {
            Set<Integer> all = new HashSet<>();
            for (int k = 0; k < wall.sun(hour) && k < sit.size(); k++) {
                all.add(sit.get(june ? sit.size() - 1 - k : k));
            }
            return all;
        }

        Time comes(int man, int place) {
            List<Integer> now = new ArrayList<>(sit);
            now.add(place, man);
            Map<Integer, Integer> eating = new HashMap<>(dining);
            eating.remove(man);
            Set<Integer> gone = new HashSet<>(dead);
            gone.remove(man);
            return new Time(wall, hour, june, snuff, now, warm, eating, gone, went);
        }

        Time dies(int man) {
            List<Integer> now = new ArrayList<>(sit);
            now.remove((Object) man);
            Map<Integer, Integer> eating = new HashMap<>(dining);
            eating.remove(man);
            Set<Integer> gone = new HashSet<>(dead);
            gone.add(man);
            return new Time(wall, hour, june, snuff, now, warm, eating, gone, went);
        }

        Time dines(int man) {
            List<Integer> now = new ArrayList<>(sit);
            now.remove((Object) man);
            Map<Integer, Integer> eating = new HashMap<>(dining);
            eating.put(man, hour + wall.men.get(man).lasting);
            return new Time(wall, hour, june, snuff, now, warm, eating, dead, went + 1);
        }

        Time snuff(int man) {
            List<Integer> now = new ArrayList<>(sit);
            int at = now.indexOf(man);
            now.remove(at);
            now.add(at - 1, man);
            return new Time(wall, hour, june, snuff + 1, now, warm, dining, dead, went);
        }

        Time next(Set<Integer> forgotten) {
            Time t = this;
            for (int man = 0; man < wall.men.size(); man++) {
                if (dining.getOrDefault(man, -1) == hour) {
                    t = t.comes(man, wall.men.get(man).sort == 'a' ? t.sit.size() / 2 : t.sit.size());
                }
            }
            for (int man : t.sit) {
                if (wall.men.get(man).dinner != hour % 24 || forgotten.contains(man)) {
                    continue;
                }
                boolean sun = t.sunny().contains(man);
                char sort = wall.men.get(man).sort;
                if (sort == 's' || sort == 'a' || sort == 'n' && !sun || sort == 'd' && sun) {
                    t = t.dines(man);
                }
            }
            List<Integer> warmer = new ArrayList<>(warm);
            for (int man : t.sunny()) {
                warmer.set(man, warmer.get(man) + 1);
            }
            return new Time(wall, hour + 1, june, snuff, t.sit, warmer, t.dining, t.dead, t.went);
        }

        Time behind(int n) {
            Time t = this;
            for (int k = 0; k < n; k++) {
                t = t.next(Set.of());
            }
            return t;
        }
    }

    private record Lane(int lane, List<Integer> items) { }

    private static final class Model {
        private final Lane[] rows = new Lane[8];
        private final StringBuilder tape = new StringBuilder();
        private Time now = null;
        private final Deque<Time> acts = new ArrayDeque<>();
        private final Time[] images = new Time[2];
        private List<Integer> trace = List.of();
        private int fault = 0;
        private int status = 0;

        int men() {
            return now == null ? 0 : now.wall.men.size();
        }

        private boolean no(int man) {
            return man < 0 || man >= men();
        }

        private static boolean not(int n, int low, int high) {
            return n < low || n > high;
        }

        private long found(int number) {
            status = number;
            return -1000010 - number;
        }

        private long fine(long answer) {
            status = 0;
            return answer;
        }

        private void act(Time then) {
            acts.push(now);
            if (acts.size() > 24) {
                acts.removeLast();
            }
            now = then;
        }

        private static int bits(Iterable<Integer> men) {
            int all = 0;
            for (int man : men) {
                all += 1 << man;
            }
            return all;
        }

        long call(String name, int[] a) {
            switch (name) {
                case "row": case "set": case "copy": case "drop": case "rang": case "who": return rowCall(name, a);
                case "feed": case "bench": case "fault": case "undo": case "image": case "restore": return tellCall(name, a);
                case "hours": case "snuff": case "leave": case "come": case "june": return doCall(name, a);
                case "man": case "place": case "sun": case "count": case "status": case "trace": return lookCall(name, a);
                case "kind": case "as": case "ask": return askCall(name, a);
                default: return foretoldCall(name, a);
            }
        }

        private long rowCall(String name, int[] a) {
            boolean isWho = name.equals("who");
            boolean isRang = name.equals("rang");
            if (isRang && now == null) return STATE;
            if (isWho && no(a[0])) return BAD;
            int row = isWho ? a[1] : a[0];
            if (not(row, 0, 7)) return BAD;
            if (name.equals("row")) {
                if (not(a[1], 0, 2) || a[2] > 40) return BAD;
                if (a[2] < 0) return found(4);
                List<Integer> items = new ArrayList<>();
                for (int i = 0; i < a[2]; i++) items.add(0);
                rows[row] = new Lane(a[1], items);
                return fine(a[2]);
            }
            if (name.equals("copy") && not(a[2], 0, 7)) return BAD;
            int n = isWho ? a[3] : isRang ? a[2] : 1;
            if ((isWho || isRang) && not(n, 1, 12)) return BAD;
            if (rows[row] == null || name.equals("copy") && rows[a[2]] == null) return found(1);
            List<Integer> items = rows[row].items;
            if (name.equals("drop")) {
                rows[row] = null;
                return fine(items.size());
            }
            if (name.equals("copy")) return copyItems(a);
            int i = isWho ? a[2] : a[1];
            if (i < 0 || (long) i + n > items.size()) return found(2);
            if (name.equals("set")) {
                int lane = rows[row].lane;
                int bits = lane == 0 ? 8 : lane == 1 ? 16 : 32;
                items.set(i, a[2] << 32 - bits >> 32 - bits);
                return fine(items.get(i));
            }
            List<Integer> told = items.subList(i, i + n);
            return fine(isWho ? whoFits(a[0], told) : rangFits(told));
        }

        private long copyItems(int[] a) {
            if (rows[a[0]].lane != rows[a[2]].lane) return found(5);
            List<Integer> from = rows[a[0]].items;
            List<Integer> to = rows[a[2]].items;
            if (a[1] < 0 || a[3] < 0 || a[4] < 0) return found(2);
            if ((long) a[1] + a[4] > from.size() || (long) a[3] + a[4] > to.size()) return found(2);
            List<Integer> were = List.copyOf(from);
            for (int k = 0; k < a[4]; k++) to.set(a[3] + k, were.get(a[1] + k));
            return fine(a[4]);
        }

        private long rangFits(List<Integer> told) {
            long all = 0;
            for (int man = -1; man < men(); man++) {
                Wall wall = now.wall;
                if (man >= 0) {
                    Told t = wall.men.get(man);
                    wall = wall.with(man, new Told(t.sort, t.dinner == 0 ? 23 : t.dinner - 1, t.lasting));
                }
                boolean fits = true;
                for (int k = 0; k < told.size(); k++) {
                    fits &= now.with(wall).behind(k + 1).sit.size() == told.get(k);
                }
                all += !fits ? 0 : man < 0 ? 128 : 1 << man;
            }
            return all;
        }

        private long whoFits(int man, List<Integer> told) {
            long all = 0;
            for (int kind = 1; kind <= 5; kind++) {
                Told t = now.wall.men.get(man);
                Wall wall = now.wall.with(man, new Told(" snabd".charAt(kind), t.dinner, t.lasting));
                boolean fits = true;
                for (int k = 0; k < told.size(); k++) {
                    fits &= now.with(wall).behind(k + 1).sit.indexOf(man) == told.get(k);
                }
                all += fits ? 1 << kind : 0;
            }
            return all;
        }

        long feed(int letter) {
            if (not(letter, 0, 255)) return BAD;
            if (tape.length() == 100) return FULL;
            tape.append((char) letter);
            return tape.length();
        }

        private long tellCall(String name, int[] a) {
            switch (name) {
                case "feed": return feed(a[0]);
                case "bench": return read();
                case "fault": return fault;
                case "undo":
                    if (acts.isEmpty()) return STATE;
                    now = acts.pop();
                    return acts.size();
                case "image":
                    if (not(a[0], 0, 1)) return BAD;
                    if (now == null) return STATE;
                    images[a[0]] = now;
                    return 1;
                default:
                    if (not(a[0], 0, 1)) return BAD;
                    if (images[a[0]] == null) return STATE;
                    now = images[a[0]];
                    acts.clear();
                    return 1;
            }
        }

        /** All tokens first (as texts with their places), then what may stand where. */
        private long read() {
            String text = tape.toString();
            tape.setLength(0);
            List<String> tokens = new ArrayList<>();
            List<Integer> places = new ArrayList<>();
            for (int i = 0; i < text.length(); ) {
                int j = i + 1;
                if (isFigure(text.charAt(i))) {
                    while (j < text.length() && isFigure(text.charAt(j))) j++;
                }
                tokens.add(text.substring(i, j));
                places.add(i);
                i = j;
            }
            tokens.add("");
            places.add(text.length());
            List<Integer> numbers = new ArrayList<>();
            StringBuilder sorts = new StringBuilder();
            for (int k = 0; k < tokens.size(); k++) {
                int number = faultOf(tokens.get(k), k, sorts, numbers);
                if (number == 9) break;
                if (number > 0) {
                    fault = number;
                    return -1000100 - places.get(k);
                }
            }
            List<Told> men = new ArrayList<>();
            List<Integer> warm = new ArrayList<>();
            List<Integer> sit = new ArrayList<>();
            for (int man = 0; man < sorts.length(); man++) {
                men.add(new Told(sorts.charAt(man), numbers.get(2 + 2 * man), numbers.get(3 + 2 * man)));
                warm.add(0);
                sit.add(man);
            }
            now = new Time(new Wall(numbers.get(0), numbers.get(1), men), 0, false, 0, sit, warm, Map.of(), Set.of(), 0);
            acts.clear();
            return men.size();
        }

        private static boolean isFigure(char c) {
            return "0123456789".indexOf(c) >= 0;
        }

        private static int faultOf(String token, int k, StringBuilder sorts, List<Integer> numbers) {
            boolean law = k < 5;
            switch (k % 5) {
                case 0:
                    if (law) return token.equals("b") ? 0 : 1;
                    if (token.isEmpty()) return sorts.length() > 0 ? 9 : 1;
                    if (!"snabd".contains(token)) return 1;
                    if (sorts.length() == 7) return 3;
                    sorts.append(token);
                    return 0;
                case 2: return token.equals(",") ? 0 : 1;
                case 4: return token.equals(";") ? 0 : 1;
                default:
                    if (!token.matches("[0-9][0-9]?")) return 1;
                    int value = Integer.parseInt(token);
                    int low = !law && k % 5 == 3 ? 1 : 0;
                    int high = k % 5 == 3 ? 9 : 23;
                    numbers.add(value);
                    return not(value, low, high) ? 2 : 0;
            }
        }

        private long doCall(String name, int[] a) {
            int man = a[0];
            switch (name) {
                case "hours":
                    if (now == null) return STATE;
                    if (not(a[0], 1, 24)) return BAD;
                    if (now.hour + a[0] > 999) return FULL;
                    for (int k = 0; k < a[0]; k++) act(now.next(Set.of()));
                    return bits(now.sit);
                case "june":
                    if (now == null) return STATE;
                    if (not(a[0], 0, 1)) return BAD;
                    if (now.june == (a[0] == 1)) return STATE;
                    act(now.june(a[0] == 1));
                    return bits(now.sunny());
                case "snuff":
                    if (no(man)) return BAD;
                    if (now.sit.indexOf(man) < 1) return STATE;
                    act(now.snuff(man));
                    return now.sit.indexOf(man);
                case "leave":
                    if (no(man)) return BAD;
                    if (now.dead.contains(man)) return STATE;
                    act(now.dies(man));
                    return now.sit.size();
                default:
                    if (no(man)) return BAD;
                    if (!now.dead.contains(man)) return STATE;
                    act(now.comes(man, now.sit.size()));
                    return now.sit.indexOf(man);
            }
        }

        private long lookCall(String name, int[] a) {
            switch (name) {
                case "man":
                    if (no(a[0]) || not(a[1], 0, 5)) return BAD;
                    int at = now.sit.indexOf(a[0]);
                    Integer back = now.dining.get(a[0]);
                    Told told = now.wall.men.get(a[0]);
                    long[] all = {at < 0 ? NONE : at, now.warm.get(a[0]), back == null ? NONE : back - now.hour,
                        now.sunny().contains(a[0]) ? 1 : 0, told.dinner, told.lasting};
                    return all[a[1]];
                case "place":
                    if (now == null) return STATE;
                    if (not(a[0], 0, 6)) return BAD;
                    return a[0] < now.sit.size() ? now.sit.get(a[0]) : NONE;
                case "sun":
                    if (now == null) return STATE;
                    return not(a[0], 0, 23) ? BAD : now.wall.sun(a[0]);
                case "trace":
                    return not(a[0], 0, trace.size() - 1) ? NONE : trace.get(a[0]);
                case "count":
                    if (not(a[0], 0, 7)) return BAD;
                    if (a[0] == 0) return Arrays.stream(rows).filter(r -> r != null).count();
                    if (a[0] == 7) return tape.length();
                    if (now == null) return 0;
                    return new long[] {0, men(), bits(now.sit), now.hour, now.snuff, now.june ? 1 : 0, acts.size()}[a[0]];
                default:
                    return status;
            }
        }

        private long askCall(String name, int[] a) {
            if (no(a[0])) return BAD;
            Person one = person(" snabd".indexOf(now.wall.men.get(a[0]).sort));
            switch (name) {
                case "kind":
                    return Arrays.asList(CLASSES).indexOf(one.getClass());
                case "as":
                    if (not(a[1], 0, 5)) return BAD;
                    return CLASSES[a[1]].isInstance(one) ? fine(a[0]) : found(3);
                default:
                    if (not(a[1], 0, 1)) return BAD;
                    one.number = a[0];
                    one.warmth = now.warm.get(a[0]);
                    one.dinner = now.wall.men.get(a[0]).dinner;
                    one.trace = new ArrayList<>();
                    int answer = a[1] == 0 ? one.size() : one.mark();
                    trace = one.trace.subList(0, Math.min(16, one.trace.size()));
                    return answer;
            }
        }

        private long foretoldCall(String name, int[] a) {
            boolean ofMan = Set.of("ahead", "sunny", "leastSnuff", "whenToCome", "wager", "late").contains(name);
            if (ofMan && no(a[0])) return BAD;
            if (!ofMan && now == null) return STATE;
            int man = ofMan ? a[0] : 0;
            switch (name) {
                case "ahead":
                    if (not(a[1], 0, 60) || not(a[2], 0, 1)) return BAD;
                    Time then = now.behind(a[1]);
                    return a[2] == 1 ? then.warm.get(man) : then.sit.contains(man) ? then.sit.indexOf(man) : NONE;
                case "sunny":
                    int k = 0;
                    while (k <= 60 && !now.behind(k).sunny().contains(man)) k++;
                    return k > 60 ? NONE : k;
                case "most":
                    if (not(a[0], 0, 60) || not(a[1], 0, 1)) return BAD;
                    List<Integer> warm = now.behind(a[0]).warm;
                    int most = warm.stream().max(Integer::compare).get();
                    return a[1] == 1 ? most : warm.indexOf(most);
                case "leastSnuff":
                    return leastSnuff(man, a[1], a[2]);
                case "whenToCome":
                    return whenToCome(man, a[1], a[2]);
                case "elm":
                    if (not(a[0], 1, 60)) return BAD;
                    List<Integer> with = now.behind(a[0]).warm;
                    List<Integer> less = now.with(new Wall(now.wall.noon, now.wall.wide - 1, now.wall.men)).behind(a[0]).warm;
                    Set<Integer> robbed = new HashSet<>();
                    for (int m = 0; m < men(); m++) if (less.get(m) < with.get(m)) robbed.add(m);
                    return bits(robbed);
                case "lasts":
                    int sunny = 0;
                    for (int h = now.hour; h < now.hour + 24; h++) sunny += now.wall.sun(h) > 0 ? 1 : 0;
                    return sunny;
                case "wager":
                    if (no(a[1]) || a[0] == a[1] || not(a[2], 1, 60)) return BAD;
                    return 1000 + now.behind(a[2]).warm.get(man) - now.behind(a[2]).warm.get(a[1]);
                case "calls":
                    return not(a[0], 1, 60) ? BAD : now.behind(a[0]).went - now.went;
                case "late":
                    return late(man, a[1], a[2]);
                default:
                    return drawn(a[0], a[1], a[2]);
            }
        }

        private long leastSnuff(int man, int n, int w) {
            if (not(n, 1, 60) || not(w, 1, 60)) return BAD;
            if (!now.sit.contains(man)) return STATE;
            Time t = now;
            for (int times = 0; ; times++) {
                if (t.behind(n).warm.get(man) >= now.warm.get(man) + w) return times;
                if (t.sit.indexOf(man) == 0) return NONE;
                t = t.snuff(man);
            }
        }

        private long whenToCome(int man, int n, int what) {
            if (not(n, 1, 40) || not(what, 0, 1)) return BAD;
            if (!now.dead.contains(man)) return STATE;
            List<Integer> gains = new ArrayList<>();
            for (int k = 0; k < n; k++) {
                Time t = now.behind(k);
                gains.add(t.comes(man, t.sit.size()).behind(n - k).warm.get(man) - now.warm.get(man));
            }
            int most = gains.stream().max(Integer::compare).get();
            return what == 1 ? most : gains.indexOf(most);
        }

        private long late(int man, int p, int what) {
            if (not(p, 0, 10) || not(what, 0, 1)) return BAD;
            List<Integer> due = new ArrayList<>();
            for (int m : now.sit) if (now.wall.men.get(m).dinner == now.hour % 24) due.add(m);
            long above = cases(man, p, due, new HashSet<>());
            long below = BigInteger.TEN.pow(due.size()).longValue();
            long common = BigInteger.valueOf(above).gcd(BigInteger.valueOf(below)).longValue();
            return what == 0 ? above / common : below / common;
        }

        private long cases(int man, int p, List<Integer> due, Set<Integer> forgotten) {
            if (due.isEmpty()) return now.next(forgotten).warm.get(man) - now.warm.get(man);
            List<Integer> rest = due.subList(1, due.size());
            Set<Integer> more = new HashSet<>(forgotten);
            more.add(due.get(0));
            return p * cases(man, p, rest, more) + (10 - p) * cases(man, p, rest, forgotten);
        }

        private long drawn(int n, int seed, int what) {
            if (not(n, 0, 60) || not(seed, 1, 999999) || not(what, 0, 1)) return BAD;
            BigInteger x = BigInteger.valueOf(seed);
            Time t = now;
            for (int k = 0; k < n; k++) {
                x = x.multiply(BigInteger.valueOf(16807)).mod(BigInteger.valueOf(2147483647));
                int man = x.mod(BigInteger.valueOf(men())).intValue();
                t = (t.sit.indexOf(man) > 0 ? t.snuff(man) : t).next(Set.of());
            }
            return what == 0 ? t.snuff - now.snuff : t.warm.stream().mapToInt(Integer::intValue).sum();
        }
    }
}
