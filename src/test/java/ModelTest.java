import java.lang.reflect.InvocationTargetException;
import java.lang.reflect.Method;
import java.lang.reflect.Modifier;
import java.util.ArrayList;
import java.util.Arrays;
import java.util.List;
import java.util.Map;
import java.util.NoSuchElementException;
import java.util.Random;
import java.util.TreeMap;
import java.util.function.ToLongFunction;

/**
 * Random runs of calls on a SandHouse and on a second reading of the document, written another way
 * (copies of everything, trees, maps); every answer and every exception must be the same.
 */
public final class ModelTest {
    private static final int RUNS = Integer.getInteger("runs", 300);

    public static void main(String[] args) throws Exception {
        int wrong = 0;
        long calls = 0;
        Map<String, int[]> seen = new TreeMap<>();
        for (int run = 0; run < RUNS && wrong < 10; run++) {
            Run r = new Run(run, seen);
            calls += r.go();
            if (r.complaint != null) {
                wrong++;
                System.out.println(r.complaint);
            }
        }
        for (Map.Entry<String, int[]> e : seen.entrySet()) {
            // a fuzz that never gets an answer, or never an exception where one is told, tests nothing
            boolean throwing = !List.of("feed", "end", "fault", "clogs", "blame", "heels", "seed", "undo", "image",
                    "back", "count").contains(e.getKey());
            if (e.getValue()[0] == 0 || throwing && e.getValue()[1] == 0) {
                wrong++;
                System.out.println(e.getKey() + " was not tried both ways: " + Arrays.toString(e.getValue()));
            }
        }
        if (seen.size() != 49 - 1) {
            wrong++;
            System.out.println("methods tried: " + seen.size());
        }
        System.out.println(calls + " calls compared with the model, " + wrong + " complaints");
        if (wrong != 0) {
            System.exit(1);
        }
    }

    /** One object beside one model. */
    private static final class Run {
        private final Random random;
        private final int number;
        private final SandHouse house = new SandHouse();
        private final Model model = new Model();
        private final Map<String, int[]> seen;
        private final StringBuilder told = new StringBuilder();
        private String complaint;
        private int calls;

        Run(int number, Map<String, int[]> seen) {
            this.number = number;
            this.random = new Random(number * 7919L + 17);
            this.seen = seen;
        }

        int go() throws Exception {
            if (number % 6 == 0) {
                tellText("house", Texts.manyRooms(random));
                tellText("house", Texts.manyDoors(random));
            }
            int texts = 1 + random.nextInt(4);
            for (int i = 0; i < texts; i++) {
                tellText("house", Texts.house(random, model, i == 0 && number % 6 > 0));
            }
            if (random.nextInt(3) > 0) {
                tellText("law", Texts.law(random));
            }
            Method[] methods = Arrays.stream(SandHouse.class.getDeclaredMethods())
                    .filter(m -> Modifier.isPublic(m.getModifiers())).toArray(Method[]::new);
            Arrays.sort(methods, (a, b) -> a.getName().compareTo(b.getName()));
            while (calls < 460 && complaint == null) {
                if (random.nextInt(40) == 0) {
                    boolean law = random.nextInt(3) == 0;
                    tellText(law ? "law" : "house", law ? Texts.law(random) : Texts.house(random, model, false));
                } else if (random.nextInt(40) == 0) {
                    tellText("noon", Texts.noon(random, model));
                } else if (random.nextInt(4) == 0) {
                    call("rounds", 1 + random.nextInt(random.nextInt(8) == 0 ? 100 : 6));
                } else {
                    Method m = methods[random.nextInt(methods.length)];
                    call(m.getName(), arguments(m));
                }
            }
            return calls;
        }

        private void tellText(String reader, String text) throws Exception {
            String rest = text;
            call("end", 0);
            while (!rest.isEmpty()) {
                Object[] five = new Object[5];
                for (int i = 0; i < 5; i++) {
                    int four = 0;
                    for (int j = 0; j < 4; j++) {
                        int at = i * 4 + j;
                        four = four << 8 | (at < rest.length() ? rest.charAt(at) & 255 : 0);
                    }
                    five[i] = four;
                }
                call("feed", five);
                rest = rest.length() > 20 ? rest.substring(20) : "";
            }
            told.append("   text: ").append(text.replace("\n", "?")).append('\n');
            call("end", text.length());
            call(reader);
            call("fault");
        }

        private Object[] arguments(Method m) {
            Class<?>[] types = m.getParameterTypes();
            Object[] out = new Object[types.length];
            for (int i = 0; i < out.length; i++) {
                if (types[i] == boolean.class) {
                    out[i] = random.nextBoolean();
                } else {
                    out[i] = numberFor(m.getName(), i);
                }
            }
            return out;
        }

        private int numberFor(String name, int i) {
            if (random.nextInt(60) == 0) {
                int[] odd = {Integer.MIN_VALUE, Integer.MAX_VALUE, -1, 12, 8, 100000, 99999, 101, 301, 25, 24, 100};
                return odd[random.nextInt(odd.length)];
            }
            String kind = Map.ofEntries(Map.entry("room", "rw"), Map.entry("sand", "rp"), Map.entry("person", "pw"),
                    Map.entry("load", "pp"), Map.entry("habit", "pk"), Map.entry("rule", "prv"),
                    Map.entry("rounds", "n"), Map.entry("sweep", "r"), Map.entry("beat", "p"),
                    Map.entry("tool", "rt"), Map.entry("keep", "pt"), Map.entry("soak", "pn"),
                    Map.entry("trial", "nv"), Map.entry("worth", "rtn"), Map.entry("stand", "tnb"),
                    Map.entry("two", "tn"), Map.entry("keepers", "gn"), Map.entry("chores", "gb"),
                    Map.entry("often", "gn"), Map.entry("when", "g"), Map.entry("fades", "g"),
                    Map.entry("later", "rn"), Map.entry("towel", "prn"), Map.entry("towelled", "pn"),
                    Map.entry("span", "nb"), Map.entry("peak", "n"), Map.entry("carries", "pb"),
                    Map.entry("whose", "r"), Map.entry("share", "rp"), Map.entry("itch", "g"),
                    Map.entry("ways", "rr"), Map.entry("cross", "pp"), Map.entry("heels", "s"),
                    Map.entry("log", "kv"), Map.entry("led", "rk"), Map.entry("count", "c"),
                    Map.entry("end", "n")).getOrDefault(name, "xxxxx");
            int rooms = model.s.rooms.size();
            int people = model.s.people.size();
            switch (kind.charAt(i)) {
                case 'r': return random.nextInt(rooms + 1) - (random.nextInt(12) == 0 ? 1 : 0);
                case 'p': return random.nextInt(people + 1) - (random.nextInt(12) == 0 ? 1 : 0);
                case 'w': return random.nextInt(9) - 1;
                case 'v': return random.nextInt(6) - 1;
                case 'k': return random.nextInt(15) - 1;
                case 'n': return random.nextInt(27) - 1;
                case 't': return random.nextInt(103) - 1;
                case 'g': return limit();
                case 's': return random.nextInt(1 << random.nextInt(14));
                case 'c': return random.nextInt(17) - 1;
                default: return random.nextInt();
            }
        }

        /** Near what there is, so that both answers come. */
        private int limit() {
            long all = model.beds(model.s);
            long inside = model.inside(model.s);
            switch (random.nextInt(5)) {
                case 0: return (int) all + random.nextInt(20) - 10;
                case 1: return (int) inside - random.nextInt(30);
                case 2: return random.nextInt((int) inside + 2);
                case 3: return random.nextInt((int) all * 2 + 5);
                default: return random.nextInt(60) - 1;
            }
        }

        private void call(String name, Object... args) throws Exception {
            if (complaint != null) {
                return;
            }
            calls++;
            String a = answer(house, name, args);
            String b = answer(model, name, args);
            int[] ways = seen.computeIfAbsent(name, k -> new int[2]);
            ways[b.startsWith("java.") ? 1 : 0]++;
            told.append("   ").append(name).append(Arrays.toString(args)).append(" -> ").append(a).append('\n');
            if (!a.equals(b)) {
                complaint = "run " + number + ":\n" + told + "   due is " + b;
            }
        }

        private static String answer(Object on, String name, Object[] args) throws Exception {
            Method found = null;
            for (Method m : on.getClass().getDeclaredMethods()) {
                if (Modifier.isPublic(m.getModifiers()) && m.getName().equals(name)) {
                    found = m;
                }
            }
            if (found == null) {
                throw new IllegalStateException("no method " + name);
            }
            found.setAccessible(true);
            try {
                return String.valueOf(found.invoke(on, args));
            } catch (InvocationTargetException e) {
                Throwable cause = e.getCause();
                // what the machine throws carries its own class, so it never equals a told one
                return cause.getClass().getName();
            }
        }
    }

    /** Random texts, most of them right. */
    private static final class Texts {
        static String house(Random r, Model m, boolean first) {
            List<String> lines = new ArrayList<>();
            int rooms = m.s.rooms.size();
            int people = m.s.people.size();
            List<int[]> doors = new ArrayList<>(m.s.doors);
            if (first || r.nextInt(3) == 0) {
                int more = 1 + r.nextInt(5);
                for (int i = 0; i < more; i++) {
                    String[] sorts = {"out", "stone", "carpet", "bed", "drain", "bed"};
                    lines.add("room " + (i == 0 && first && r.nextInt(3) > 0 ? "out" : sorts[r.nextInt(6)]) + " " + (1 + r.nextInt(9)));
                    rooms++;
                    if (rooms > 1 && r.nextInt(5) > 0) {
                        int to = r.nextInt(rooms - 1);
                        lines.add("door " + (rooms - 1) + " " + to);
                        doors.add(new int[] {rooms - 1, to});
                    }
                }
            }
            int want = lines.size() + 1 + r.nextInt(7);
            while (lines.size() < want) {
                int room = r.nextInt(rooms + 1) - (r.nextInt(15) == 0 ? 0 : 1);
                int person = r.nextInt(people + 1) - (r.nextInt(15) == 0 ? 0 : 1);
                room = Math.max(room, 0);
                person = Math.max(person, 0);
                int kind = people == 0 ? 2 : r.nextInt(9);
                switch (kind) {
                    case 0: lines.add("load " + person + " " + number(r)); break;
                    case 1: lines.add("sand " + room + " " + person + " " + number(r)); break;
                    case 2: case 3:
                        lines.add("person" + habit(r, rooms, doors));
                        people++;
                        break;
                    case 4: lines.add("tool " + room + " " + r.nextInt(101)); break;
                    case 5: lines.add("keeps " + person + " " + r.nextInt(101)); break;
                    case 6: lines.add("wet " + person + " " + r.nextInt(9)); break;
                    case 7: lines.add("clog " + r.nextInt(r.nextBoolean() ? 100 : 100000)); break;
                    default:
                        int to = r.nextInt(rooms + 1);
                        lines.add("door " + room + " " + to);
                        doors.add(new int[] {room, to});
                        break;
                }
            }
            return spoil(r, space(r, String.join(";", lines)));
        }

        static String manyRooms(Random r) {
            List<String> lines = new ArrayList<>(List.of("room out 1"));
            String[] sorts = {"out", "stone", "carpet", "bed", "drain", "bed"};
            while (lines.size() < 11) {
                lines.add("room " + sorts[r.nextInt(6)] + " " + (1 + r.nextInt(99)));
            }
            lines.add("room bed 4");
            return String.join(";", lines);
        }

        static String manyDoors(Random r) {
            List<String> lines = new ArrayList<>();
            for (int i = 1; i < 12; i++) {
                lines.add("door " + i + " " + r.nextInt(i));
            }
            lines.add("person 0");
            lines.add("person 11");
            return String.join(";", lines);
        }

        static String number(Random r) {
            return String.valueOf(r.nextInt(10) == 0 ? 9000 + r.nextInt(1010) : r.nextInt(900));
        }

        static String habit(Random r, int rooms, List<int[]> doors) {
            StringBuilder out = new StringBuilder();
            int at = r.nextInt(Math.max(rooms, 1));
            List<Integer> way = new ArrayList<>(List.of(at));
            int steps = r.nextInt(6);
            for (int i = 0; i < steps; i++) {
                List<Integer> next = new ArrayList<>(List.of(at));
                for (int[] d : doors) {
                    if (d[0] == at) {
                        next.add(d[1]);
                        next.add(d[1]);
                    }
                    if (d[1] == at) {
                        next.add(d[0]);
                        next.add(d[0]);
                    }
                }
                at = next.get(r.nextInt(next.size()));
                way.add(at);
            }
            int home = r.nextInt(12) == 0 ? 0 : way.size() - 2;
            for (int i = home; i >= 1; i--) {
                way.add(way.get(i));
            }
            for (int room : way) {
                out.append(' ').append(r.nextInt(20) == 0 ? "0" : "").append(room);
            }
            return out.toString();
        }

        static String law(Random r) {
            StringBuilder out = new StringBuilder();
            int lines = r.nextInt(8) == 0 ? r.nextInt(14) : r.nextInt(7);
            String[] kinds = {"bring", "drop", "pick", "sweep"};
            for (int i = 0; i < lines; i++) {
                if (out.length() > 0) {
                    out.append(';');
                }
                out.append(kinds[r.nextInt(4)]).append(' ').append(r.nextInt(r.nextInt(20) == 0 ? 1100 : 70));
                if (r.nextInt(3) > 0) {
                    out.append(" if ").append(either(r, 0));
                }
            }
            String text = space(r, out.toString());
            return spoil(r, text.length() > 400 ? text.substring(0, 400) : text);
        }

        static String either(Random r, int deep) {
            StringBuilder out = new StringBuilder(atom(r, deep));
            int more = r.nextInt(4) == 0 ? 1 + r.nextInt(3) : 0;
            for (int i = 0; i < more; i++) {
                out.append(r.nextBoolean() ? " and " : " or ").append(atom(r, deep));
            }
            return out.toString();
        }

        static String atom(Random r, int deep) {
            String[] flags = {"out", "stone", "carpet", "bed", "drain", "wet"};
            switch (r.nextInt(deep > 6 ? 4 : 6)) {
                case 0: case 1: return flags[r.nextInt(6)];
                case 2: case 3: return sum(r) + (r.nextBoolean() ? " < " : " > ") + sum(r);
                case 4: return "not " + atom(r, deep + 1);
                default: return "(" + either(r, deep + 1) + ")";
            }
        }

        static String sum(Random r) {
            String[] parts = {"person", "room", "load", "here", "round", "part"};
            StringBuilder out = new StringBuilder();
            int n = r.nextInt(3) == 0 ? 2 + r.nextInt(2) : 1;
            for (int i = 0; i < n; i++) {
                out.append(i > 0 ? " + " : "");
                out.append(r.nextBoolean() ? parts[r.nextInt(6)] : String.valueOf(r.nextInt(r.nextBoolean() ? 9 : 300)));
            }
            return out.toString();
        }

        static String noon(Random r, Model m) {
            StringBuilder out = new StringBuilder();
            int n = r.nextInt(4);
            for (int i = 0; i < n; i++) {
                int round = r.nextInt(6) == 0 ? r.nextInt(10010) : r.nextInt(20);
                out.append((char) (97 + r.nextInt(m.s.rooms.size() + 1) - (r.nextInt(6) == 0 ? 0 : r.nextInt(2))));
                out.append((char) (round >> 8)).append((char) (round & 255));
            }
            if (r.nextInt(10) == 0) {
                out.append('a');
            }
            return out.toString();
        }

        static String space(Random r, String text) {
            if (r.nextInt(4) > 0) {
                return text;
            }
            StringBuilder out = new StringBuilder();
            for (char c : text.toCharArray()) {
                if ((c == ' ' || c == ';' || c == '+' || c == '(' || c == ')') && r.nextInt(6) == 0) {
                    out.append(' ').append(c).append(' ');
                } else {
                    out.append(c);
                }
            }
            return out.length() > 400 ? text : out.toString();
        }

        static String spoil(Random r, String text) {
            String out = text.length() > 400 ? text.substring(0, 400) : text;
            if (r.nextInt(4) > 0 || out.isEmpty()) {
                return out;
            }
            int at = r.nextInt(out.length());
            String junk = "az09;()<>+ \tA" + (char) 200 + (char) 0;
            char c = junk.charAt(r.nextInt(junk.length()));
            switch (r.nextInt(4)) {
                case 0: return out.substring(0, at);
                case 1: return out.substring(0, at) + out.substring(at + 1);
                case 2: return out.substring(0, at) + c + out.substring(at + 1);
                default: return out.length() < 400 ? out.substring(0, at) + c + out.substring(at) : out;
            }
        }
    }

    private static final class Room {
        int sort;
        int minutes;
        int part;
        long[] grains = new long[8];

        Room copy() {
            Room r = new Room();
            r.sort = sort;
            r.minutes = minutes;
            r.part = part;
            r.grains = grains.clone();
            return r;
        }

        long all() {
            return Arrays.stream(grains).sum();
        }
    }

    private static final class Person {
        List<Integer> habit = new ArrayList<>();
        int at;
        int keeps = 100;
        int wet;
        long[] load = new long[8];

        Person copy() {
            Person p = new Person();
            p.habit = habit;
            p.at = at;
            p.keeps = keeps;
            p.wet = wet;
            p.load = load.clone();
            return p;
        }

        int room() {
            return habit.get(at);
        }

        long all() {
            return Arrays.stream(load).sum();
        }
    }

    /** A line of THE LAW; a condition answers 1 or 0. */
    private static final class LawLine {
        String kind;
        int n;
        ToLongFunction<Facts> condition;
    }

    private static final class Facts {
        long person;
        long room;
        long load;
        long here;
        long round;
        long part;
        int sort;
        boolean wet;
    }

    private static final class State {
        List<Room> rooms = new ArrayList<>();
        List<int[]> doors = new ArrayList<>();
        List<Person> people = new ArrayList<>();
        List<LawLine> law;
        List<long[]> log = new ArrayList<>();
        int texts;
        long gone;
        long told;
        long drained;
        long clog = 1000;
        int round;
        int spent;
        int seed = 1;

        State copy() {
            State s = new State();
            for (Room r : rooms) {
                s.rooms.add(r.copy());
            }
            s.doors.addAll(doors);
            for (Person p : people) {
                s.people.add(p.copy());
            }
            s.law = law;
            s.log.addAll(log);
            s.texts = texts;
            s.gone = gone;
            s.told = told;
            s.drained = drained;
            s.clog = clog;
            s.round = round;
            s.spent = spent;
            s.seed = seed;
            return s;
        }
    }

    private static final class Wrong extends Exception {
        private static final long serialVersionUID = 1L;
        final int at;

        Wrong(int at) {
            this.at = at;
        }
    }

    /** Things of a text, cut all at once: each with its begin; the last one is the end. */
    private static final class Things {
        final List<String> texts = new ArrayList<>();
        final List<Integer> begins = new ArrayList<>();
        int at;

        Things(String text) {
            java.util.regex.Matcher m = java.util.regex.Pattern.compile("[0-9]+|[a-z]+|[^ ]", java.util.regex.Pattern.DOTALL)
                    .matcher(text);
            while (m.find()) {
                texts.add(m.group());
                begins.add(m.start());
            }
            texts.add("");
            begins.add(text.length());
        }

        String peek() {
            return texts.get(at);
        }

        int begin() {
            return begins.get(at);
        }

        boolean ended() {
            return at == texts.size() - 1;
        }

        boolean take(String s) {
            if (!peek().equals(s)) {
                return false;
            }
            at++;
            return true;
        }

        boolean digits() {
            return peek().matches("[0-9]+");
        }

        int number(int most, long low, long high) throws Wrong {
            if (!digits() || peek().length() > most || Long.parseLong(peek()) < low || Long.parseLong(peek()) > high) {
                throw new Wrong(begin());
            }
            return Integer.parseInt(texts.get(at++));
        }

        int among(String... words) throws Wrong {
            int i = Arrays.asList(words).indexOf(peek());
            if (i < 0) {
                throw new Wrong(begin());
            }
            at++;
            return i;
        }
    }

    /** The second reading. */
    private static final class Model {
        State s = new State();
        private State image;
        private final List<State> past = new ArrayList<>();
        private final StringBuilder tape = new StringBuilder();
        private int fault = -1;

        public int feed(int a, int b, int c, int d, int e) {
            if (tape.length() > 380) {
                return -1;
            }
            for (int n : new int[] {a, b, c, d, e}) {
                for (byte x : java.nio.ByteBuffer.allocate(4).putInt(n).array()) {
                    tape.append((char) (x & 255));
                }
            }
            return tape.length();
        }

        public boolean end(int n) {
            if (n < 0 || tape.length() < n) {
                return false;
            }
            tape.setLength(n);
            return true;
        }

        private String used() {
            String text = tape.toString();
            tape.setLength(0);
            return text;
        }

        public int house() {
            State draft = s.copy();
            try {
                fault = -1;
                readHouse(new Things(used()), draft);
            } catch (Wrong w) {
                fault = w.at;
                throw new IllegalArgumentException();
            }
            if (s.texts == 12) {
                throw new UnsupportedOperationException();
            }
            s = draft;
            s.texts++;
            past.clear();
            return s.texts;
        }

        private void readHouse(Things t, State d) throws Wrong {
            if (t.ended()) {
                return;
            }
            int lines = 0;
            do {
                if (++lines > 14) {
                    throw new Wrong(t.begin());
                }
                houseLine(t, d);
            } while (t.take(";"));
            if (!t.ended()) {
                throw new Wrong(t.begin());
            }
        }

        private void houseLine(Things t, State d) throws Wrong {
            int first = t.begin();
            String word = t.peek();
            t.among("room", "door", "person", "load", "sand", "tool", "keeps", "wet", "clog");
            if (word.equals("room") && d.rooms.size() == 12 || word.equals("door") && d.doors.size() == 20
                    || word.equals("person") && d.people.size() == 8) {
                throw new Wrong(first);
            }
            int lastRoom = d.rooms.size() - 1;
            int lastPerson = d.people.size() - 1;
            if (word.equals("room")) {
                Room r = new Room();
                r.sort = t.among("out", "stone", "carpet", "bed", "drain");
                r.minutes = t.number(5, 1, 99);
                d.rooms.add(r);
            } else if (word.equals("door")) {
                int a = t.number(5, 0, lastRoom);
                int begin = t.begin();
                int b = t.number(5, 0, lastRoom);
                if (a == b) {
                    throw new Wrong(begin);
                }
                d.doors.add(new int[] {a, b});
            } else if (word.equals("person")) {
                personLine(t, d, lastRoom);
            } else if (word.equals("load")) {
                Person p = d.people.get(t.number(5, 0, lastPerson));
                addOwn(d, p, d.people.indexOf(p), t.number(5, 0, 9999));
            } else if (word.equals("sand")) {
                Room r = d.rooms.get(t.number(5, 0, lastRoom));
                int whose = t.number(5, 0, lastPerson);
                int n = t.number(5, 0, 9999);
                r.grains[whose] += n;
                d.told += n;
            } else if (word.equals("tool")) {
                Room r = d.rooms.get(t.number(5, 0, lastRoom));
                r.part = t.number(5, 0, 100);
            } else if (word.equals("keeps")) {
                Person p = d.people.get(t.number(5, 0, lastPerson));
                p.keeps = t.number(5, 0, 100);
            } else if (word.equals("wet")) {
                Person p = d.people.get(t.number(5, 0, lastPerson));
                p.wet = t.number(5, 0, 99);
            } else {
                d.clog = t.number(5, 0, 99999);
            }
        }

        private void personLine(Things t, State d, int lastRoom) throws Wrong {
            Person p = new Person();
            int begin = t.begin();
            p.habit.add(t.number(5, 0, lastRoom));
            while (t.digits()) {
                begin = t.begin();
                if (p.habit.size() == 12) {
                    throw new Wrong(begin);
                }
                int next = t.number(5, 0, lastRoom);
                if (!door(d, p.habit.get(p.habit.size() - 1), next)) {
                    throw new Wrong(begin);
                }
                p.habit.add(next);
            }
            if (!door(d, p.habit.get(p.habit.size() - 1), p.habit.get(0))) {
                throw new Wrong(begin);
            }
            d.people.add(p);
        }

        private static boolean door(State d, int a, int b) {
            return a == b || d.doors.stream().anyMatch(x -> x[0] == a && x[1] == b || x[0] == b && x[1] == a);
        }

        private static void addOwn(State d, Person p, int own, long n) {
            long more = p.all() + n > 9999 ? 9999 - p.all() : n;
            p.load[own] += more;
            d.told += more;
        }

        public int law() {
            List<LawLine> lines = new ArrayList<>();
            try {
                fault = -1;
                Things t = new Things(used());
                if (!t.ended()) {
                    do {
                        if (lines.size() == 12) {
                            throw new Wrong(t.begin());
                        }
                        LawLine line = new LawLine();
                        line.kind = t.peek();
                        t.among("bring", "drop", "pick", "sweep");
                        line.n = t.number(3, 0, 999);
                        line.condition = t.take("if") ? either(t, 0) : f -> 1;
                        lines.add(line);
                    } while (t.take(";"));
                    if (!t.ended()) {
                        throw new Wrong(t.begin());
                    }
                }
            } catch (Wrong w) {
                fault = w.at;
                throw new IllegalArgumentException();
            }
            s.law = lines;
            past.clear();
            return lines.size();
        }

        private static ToLongFunction<Facts> either(Things t, int deep) throws Wrong {
            List<ToLongFunction<Facts>> of = new ArrayList<>();
            do {
                List<ToLongFunction<Facts>> all = new ArrayList<>();
                do {
                    all.add(atom(t, deep));
                } while (t.take("and"));
                of.add(f -> all.stream().allMatch(a -> a.applyAsLong(f) == 1) ? 1 : 0);
            } while (t.take("or"));
            return f -> of.stream().anyMatch(a -> a.applyAsLong(f) == 1) ? 1 : 0;
        }

        private static ToLongFunction<Facts> atom(Things t, int deep) throws Wrong {
            if (deep == 6 && (t.peek().equals("not") || t.peek().equals("("))) {
                throw new Wrong(t.begin());
            }
            if (t.take("not")) {
                ToLongFunction<Facts> of = atom(t, deep + 1);
                return f -> 1 - of.applyAsLong(f);
            }
            if (t.take("(")) {
                ToLongFunction<Facts> of = either(t, deep + 1);
                if (!t.take(")")) {
                    throw new Wrong(t.begin());
                }
                return of;
            }
            if (t.take("wet")) {
                return f -> f.wet ? 1 : 0;
            }
            String[] sorts = {"out", "stone", "carpet", "bed", "drain"};
            for (int i = 0; i < 5; i++) {
                if (t.take(sorts[i])) {
                    int sort = i;
                    return f -> f.sort == sort ? 1 : 0;
                }
            }
            ToLongFunction<Facts> left = sum(t);
            boolean less = t.among("<", ">") == 0;
            ToLongFunction<Facts> right = sum(t);
            return f -> (less ? left.applyAsLong(f) < right.applyAsLong(f) : left.applyAsLong(f) > right.applyAsLong(f)) ? 1 : 0;
        }

        private static ToLongFunction<Facts> sum(Things t) throws Wrong {
            List<ToLongFunction<Facts>> parts = new ArrayList<>();
            do {
                if (t.digits()) {
                    long n = t.number(3, 0, 999);
                    parts.add(f -> n);
                } else {
                    switch (t.among("person", "room", "load", "here", "round", "part")) {
                        case 0: parts.add(f -> f.person); break;
                        case 1: parts.add(f -> f.room); break;
                        case 2: parts.add(f -> f.load); break;
                        case 3: parts.add(f -> f.here); break;
                        case 4: parts.add(f -> f.round); break;
                        default: parts.add(f -> f.part); break;
                    }
                }
            } while (t.take("+"));
            return f -> parts.stream().mapToLong(p -> p.applyAsLong(f)).sum();
        }

        private static long by(State d, String kind, int person, int room) {
            Facts f = new Facts();
            Room r = d.rooms.get(room);
            f.sort = r.sort;
            f.room = room;
            f.here = r.all();
            f.round = d.round;
            f.part = r.part;
            if (!kind.equals("sweep")) {
                f.person = person;
                f.load = d.people.get(person).all();
                f.wet = d.people.get(person).wet > 0;
            }
            if (d.law == null) {
                return kind.equals("bring") ? (r.sort == 0 ? 50 : 0) : kind.equals("drop") ? 20 : kind.equals("pick") ? 5 : 50;
            }
            long sum = 0;
            for (LawLine l : d.law) {
                if (l.kind.equals(kind)) {
                    sum += l.n * l.condition.applyAsLong(f);
                }
            }
            return Math.min(sum, kind.equals("bring") ? 200 : 100);
        }

        private static long round(State d) {
            long fell = 0;
            for (int p = 0; p < d.people.size(); p++) {
                Person who = d.people.get(p);
                int from = who.room();
                who.at = (who.at + 1) % who.habit.size();
                int at = who.room();
                Room room = d.rooms.get(at);
                addOwn(d, who, p, by(d, "bring", p, at));
                if (room.part != 0) {
                    d.seed = d.seed * 1103515245 + 12345;
                    if (((d.seed >> 16) & 0x7fff) % 100 < who.keeps) {
                        d.gone += part(who.load, room.part);
                    }
                }
                long now = 0;
                if (who.wet == 0) {
                    long percent = by(d, "drop", p, at);
                    for (int i = 0; i < 8; i++) {
                        long n = who.load[i] * percent / 100;
                        who.load[i] -= n;
                        room.grains[i] += n;
                        now += n;
                    }
                }
                long percent = by(d, "pick", p, at);
                long[] picked = new long[8];
                for (int i = 0; i < 8; i++) {
                    picked[i] = room.grains[i] * percent / 100;
                }
                if (Arrays.stream(picked).sum() + who.all() <= 9999) {
                    for (int i = 0; i < 8; i++) {
                        room.grains[i] -= picked[i];
                        who.load[i] += picked[i];
                    }
                }
                if (who.wet > 0) {
                    who.wet--;
                }
                if (now > 0) {
                    d.log.add(0, new long[] {d.round, p, at, now, from});
                    while (d.log.size() > 80) {
                        d.log.remove(80);
                    }
                }
                fell += now;
            }
            for (Room r : d.rooms) {
                if (r.sort == 4 && d.drained < d.clog) {
                    for (int i = 0; i < 8; i++) {
                        long n = r.grains[i] / 10;
                        r.grains[i] -= n;
                        d.gone += n;
                        d.drained += n;
                    }
                }
            }
            d.round++;
            return fell;
        }

        /** Takes so much in a hundred off a row: how many. */
        private static long part(long[] row, long percent) {
            long sum = 0;
            for (int i = 0; i < row.length; i++) {
                long n = row[i] * percent / 100;
                row[i] -= n;
                sum += n;
            }
            return sum;
        }

        private static long sweeping(State d, int room) {
            long n = part(d.rooms.get(room).grains, by(d, "sweep", 0, room));
            d.gone += n;
            return n;
        }

        private static void sweepAll(State d) {
            for (int i = 0; i < d.rooms.size(); i++) {
                if (d.rooms.get(i).sort != 0) {
                    sweeping(d, i);
                }
            }
        }

        private static State after(State from, int n) {
            State d = from.copy();
            for (int i = 0; i < n; i++) {
                round(d);
            }
            return d;
        }

        long beds(State d) {
            return d.rooms.stream().filter(r -> r.sort == 3).mapToLong(Room::all).sum();
        }

        long inside(State d) {
            return d.rooms.stream().filter(r -> r.sort != 0).mapToLong(Room::all).sum();
        }

        private long loads(State d) {
            return d.people.stream().mapToLong(Person::all).sum();
        }

        private void room(int r) {
            if (r < 0 || r >= s.rooms.size()) {
                throw new IndexOutOfBoundsException();
            }
        }

        private void person(int p) {
            if (p < 0 || p >= s.people.size()) {
                throw new IndexOutOfBoundsException();
            }
        }

        private static void number(long n, long low, long high) {
            if (n < low || n > high) {
                throw new IllegalArgumentException();
            }
        }

        private static void what(int n, int high) {
            if (n < 0 || n > high) {
                throw new NoSuchElementException();
            }
        }

        public int fault() {
            return fault;
        }

        public int room(int room, int what) {
            room(room);
            what(what, 6);
            Room r = s.rooms.get(room);
            int bits = 0;
            if (what == 4) {
                for (int i = 0; i < s.people.size(); i++) {
                    bits |= s.people.get(i).room() == room ? 1 << i : 0;
                }
            }
            if (what == 5) {
                for (int i = 0; i < s.rooms.size(); i++) {
                    bits |= i != room && door(s, i, room) ? 1 << i : 0;
                }
            }
            return what == 0 ? r.sort : what == 1 ? r.minutes : what == 2 ? r.part : what == 3 ? (int) r.all()
                    : what == 6 ? (int) by(s, "sweep", 0, room) : bits;
        }

        public int sand(int room, int person) {
            room(room);
            person(person);
            return (int) s.rooms.get(room).grains[person];
        }

        public int person(int person, int what) {
            person(person);
            what(what, 6);
            Person p = s.people.get(person);
            int roams = p.habit.stream().mapToInt(r -> 1 << r).reduce(0, (a, b) -> a | b);
            return new int[] {p.room(), (int) p.all(), p.keeps, p.wet, p.habit.size(), p.at, roams}[what];
        }

        public int load(int person, int whose) {
            person(person);
            person(whose);
            return (int) s.people.get(person).load[whose];
        }

        public int habit(int person, int k) {
            person(person);
            List<Integer> habit = s.people.get(person).habit;
            return k < 0 || k >= habit.size() ? -1 : habit.get(k);
        }

        public int rule(int person, int room, int what) {
            person(person);
            room(room);
            what(what, 2);
            return (int) by(s, new String[] {"bring", "drop", "pick"}[what], person, room);
        }

        private void act() {
            past.add(s.copy());
            if (past.size() > 12) {
                past.remove(0);
            }
        }

        public int rounds(int n) {
            number(n, 1, 100);
            act();
            long fell = 0;
            for (int i = 0; i < n; i++) {
                fell += round(s);
            }
            return (int) fell;
        }

        public int sweep(int room) {
            room(room);
            act();
            s.spent += s.rooms.get(room).minutes;
            return (int) sweeping(s, room);
        }

        public int beat(int person) {
            person(person);
            act();
            return (int) beating(s, person);
        }

        private static long beating(State d, int person) {
            long sum = 0;
            long[] load = d.people.get(person).load;
            for (int i = 0; i < 8; i++) {
                sum += load[i] / 2;
                load[i] -= load[i] / 2;
            }
            d.gone += sum;
            return sum;
        }

        public int tool(int room, int part) {
            room(room);
            number(part, 0, 100);
            act();
            int was = s.rooms.get(room).part;
            s.rooms.get(room).part = part;
            return was;
        }

        public int keep(int person, int keeps) {
            person(person);
            number(keeps, 0, 100);
            act();
            int was = s.people.get(person).keeps;
            s.people.get(person).keeps = keeps;
            return was;
        }

        public int soak(int person, int rounds) {
            person(person);
            number(rounds, 0, 99);
            act();
            int was = s.people.get(person).wet;
            s.people.get(person).wet = rounds;
            return was;
        }

        public int trial(int n, int what) {
            number(n, 0, 100);
            what(what, 3);
            State d = after(s, n);
            return (int) new long[] {beds(d), inside(d), loads(d), d.gone}[what];
        }

        private State withTools(int part, int n, int... rooms) {
            State d = s.copy();
            for (int r : rooms) {
                d.rooms.get(r).part = part;
            }
            return after(d, n);
        }

        public int worth(int room, int part, int n) {
            room(room);
            number(part, 1, 100);
            number(n, 0, 100);
            return (int) (beds(after(s, n)) - beds(withTools(part, n, room)));
        }

        public int stand(int part, int n, boolean all) {
            number(part, 1, 100);
            number(n, 0, 24);
            TreeMap<Long, Integer> best = new TreeMap<>();
            for (int r = 0; r < s.rooms.size(); r++) {
                if (s.rooms.get(r).part == 0) {
                    State d = withTools(part, n, r);
                    best.putIfAbsent(all ? inside(d) : beds(d), r);
                }
            }
            return best.isEmpty() ? -1 : best.firstEntry().getValue();
        }

        public int two(int part, int n) {
            number(part, 1, 100);
            number(n, 0, 24);
            TreeMap<Long, Integer> best = new TreeMap<>();
            for (int bits = 0; bits < 1 << s.rooms.size(); bits++) {
                if (Integer.bitCount(bits) == 2) {
                    int a = Integer.numberOfTrailingZeros(bits);
                    int b = 31 - Integer.numberOfLeadingZeros(bits);
                    if (s.rooms.get(a).part == 0 && s.rooms.get(b).part == 0) {
                        best.putIfAbsent(beds(withTools(part, n, a, b)), bits);
                    }
                }
            }
            return best.isEmpty() ? -1 : best.firstEntry().getValue();
        }

        public int keepers(int limit, int n) {
            number(limit, 0, Integer.MAX_VALUE);
            number(n, 0, 24);
            int best = -1;
            for (int bits = 0; bits < 1 << s.people.size(); bits++) {
                if (best >= 0 && Integer.bitCount(bits) >= Integer.bitCount(best)) {
                    continue;
                }
                State d = s.copy();
                for (int p = 0; p < d.people.size(); p++) {
                    d.people.get(p).keeps = (bits >> p & 1) == 1 ? 100 : 0;
                }
                if (beds(after(d, n)) <= limit) {
                    best = bits;
                }
            }
            return best;
        }

        public int chores(int limit, boolean rooms) {
            number(limit, 0, Integer.MAX_VALUE);
            int best = -1;
            int least = Integer.MAX_VALUE;
            long[] gone = new long[s.rooms.size()];
            for (int r = 0; r < gone.length; r++) {
                gone[r] = sweeping(s.copy(), r);
            }
            long all = inside(s);
            sets:
            for (int bits = 0; bits < 1 << s.rooms.size(); bits++) {
                int minutes = 0;
                long left = all;
                for (int r = 0; r < gone.length; r++) {
                    if ((bits >> r & 1) == 1) {
                        if (s.rooms.get(r).sort == 0) {
                            continue sets;
                        }
                        minutes += s.rooms.get(r).minutes;
                        left -= gone[r];
                    }
                }
                if (left <= limit && minutes < least) {
                    least = minutes;
                    best = bits;
                }
            }
            return best < 0 ? -1 : rooms ? best : least;
        }

        public int often(int limit, int n) {
            number(limit, 0, Integer.MAX_VALUE);
            number(n, 1, 24);
            int best = -1;
            for (int k = 1; k <= n; k++) {
                State d = s.copy();
                boolean fine = true;
                for (int i = 1; i <= n; i++) {
                    round(d);
                    if (i % k == 0) {
                        sweepAll(d);
                    }
                    fine &= beds(d) <= limit;
                }
                best = fine ? k : best;
            }
            return best;
        }

        public int when(int limit) {
            number(limit, 1, 99999);
            State d = s.copy();
            int n = 0;
            while (beds(d) < limit && n <= 300) {
                round(d);
                n++;
            }
            return n > 300 ? -1 : n;
        }

        public int clogs() {
            State d = s.copy();
            int n = 0;
            while (d.drained < d.clog && n <= 300) {
                round(d);
                n++;
            }
            return n > 300 ? -1 : n;
        }

        public int fades(int limit) {
            number(limit, 0, Integer.MAX_VALUE);
            State d = s.copy();
            int n = 0;
            while (inside(d) > limit && n <= 99) {
                sweepAll(d);
                n++;
            }
            return n > 99 ? -1 : n;
        }

        public int later(int room, int n) {
            room(room);
            number(n, 0, 24);
            TreeMap<Long, Integer> best = new TreeMap<>();
            for (int k = 0; k <= n; k++) {
                State d = after(s, k);
                sweeping(d, room);
                best.putIfAbsent(after(d, n - k).rooms.get(room).all(), k);
            }
            return best.firstEntry().getValue();
        }

        public int towel(int person, int room, int n) {
            person(person);
            room(room);
            number(n, 0, 24);
            State d = s.copy();
            for (int i = 0; i < n; i++) {
                round(d);
                if (d.people.get(person).room() == room) {
                    beating(d, person);
                }
            }
            return (int) (beds(after(s, n)) - beds(d));
        }

        public int towelled(int person, int n) {
            person(person);
            number(n, 0, 24);
            TreeMap<Integer, Integer> best = new TreeMap<>();
            for (int room : new java.util.TreeSet<>(s.people.get(person).habit)) {
                best.putIfAbsent(-towel(person, room, n), room);
            }
            return best.firstEntry().getValue();
        }

        public int span(int n, boolean most) {
            number(n, 0, 24);
            java.util.TreeSet<Long> all = new java.util.TreeSet<>();
            for (int seed = 1; seed <= 8; seed++) {
                State d = s.copy();
                d.seed = seed;
                all.add(beds(after(d, n)));
            }
            return (int) (long) (most ? all.last() : all.first());
        }

        public int peak(int n) {
            number(n, 1, 100);
            TreeMap<Long, Integer> best = new TreeMap<>();
            State d = s.copy();
            for (int i = 1; i <= n; i++) {
                long before = beds(d);
                round(d);
                best.putIfAbsent(beds(d) - before, i);
            }
            return best.lastEntry().getValue();
        }

        private static int top(long[] row) {
            int best = -1;
            for (int i = 0; i < row.length; i++) {
                if (row[i] > 0 && (best < 0 || row[i] > row[best])) {
                    best = i;
                }
            }
            return best;
        }

        public int carries(int person, boolean many) {
            person(person);
            long[] load = s.people.get(person).load;
            return many ? (int) Arrays.stream(load).filter(n -> n > 0).count() : top(load);
        }

        public int whose(int room) {
            room(room);
            return top(s.rooms.get(room).grains);
        }

        public int share(int room, int person) {
            room(room);
            person(person);
            Room r = s.rooms.get(room);
            return r.all() == 0 ? 0 : (int) (r.grains[person] * 10000 / r.all());
        }

        public int blame() {
            long[] sum = new long[8];
            for (Room r : s.rooms) {
                for (int i = 0; i < 8 && r.sort == 3; i++) {
                    sum[i] += r.grains[i];
                }
            }
            return top(sum);
        }

        public int itch(int grains) {
            number(grains, 0, Integer.MAX_VALUE);
            int bits = 0;
            for (int r = 0; r < s.rooms.size(); r++) {
                bits |= s.rooms.get(r).sort == 3 && s.rooms.get(r).all() > grains ? 1 << r : 0;
            }
            return bits;
        }

        public int ways(int from, int to) {
            room(from);
            room(to);
            int[] far = new int[s.rooms.size()];
            Arrays.fill(far, 99);
            far[from] = 0;
            for (int i = 0; i < 12; i++) {
                for (int[] d : s.doors) {
                    far[d[0]] = Math.min(far[d[0]], far[d[1]] + 1);
                    far[d[1]] = Math.min(far[d[1]], far[d[0]] + 1);
                }
            }
            return far[to] >= 99 ? -1 : far[to];
        }

        public int cross(int one, int other) {
            person(one);
            person(other);
            if (one == other) {
                throw new IllegalArgumentException();
            }
            Person a = s.people.get(one);
            Person b = s.people.get(other);
            for (int i = 0; i <= 144; i++) {
                if (a.habit.get((a.at + i) % a.habit.size()).equals(b.habit.get((b.at + i) % b.habit.size()))) {
                    return s.round + i;
                }
            }
            return -1;
        }

        public int noon() {
            String t = used();
            number(t.length() % 3, 0, 0);
            int bits = (1 << s.people.size()) - 1;
            for (int i = 0; i < t.length(); i += 3) {
                int room = t.charAt(i) - 97;
                int round = t.charAt(i + 1) * 256 + t.charAt(i + 2);
                number(room, 0, s.rooms.size() - 1);
                number(round, 0, 9999);
                for (int p = 0; p < s.people.size(); p++) {
                    Person who = s.people.get(p);
                    int size = who.habit.size();
                    int at = ((who.at + round - s.round) % size + size) % size;
                    if (who.habit.get(at) != room) {
                        bits &= ~(1 << p);
                    }
                }
            }
            return bits;
        }

        public int heels(int rooms) {
            int bits = 0;
            for (int p = 0; p < s.people.size(); p++) {
                boolean all = true;
                for (int r = 0; r < s.rooms.size(); r++) {
                    int who = p;
                    int where = r;
                    if ((rooms & 1 << r) != 0) {
                        all &= s.log.stream().anyMatch(row -> row[1] == who && row[2] == where);
                    }
                }
                bits |= all ? 1 << p : 0;
            }
            return bits;
        }

        public int log(int ago, int what) {
            what(what, 4);
            return ago < 0 || ago >= s.log.size() ? -1 : (int) s.log.get(ago)[what];
        }

        public int led(int room, int k) {
            room(room);
            number(k, 0, Integer.MAX_VALUE);
            int at = room;
            int row = 0;
            for (int i = 0; i < k; i++) {
                while (row < s.log.size() && s.log.get(row)[2] != at) {
                    row++;
                }
                if (row == s.log.size()) {
                    return -1;
                }
                at = (int) s.log.get(row)[4];
                row++;
            }
            return at;
        }

        public int seed(int n) {
            int was = s.seed;
            s.seed = n;
            return was;
        }

        public boolean undo() {
            if (past.isEmpty()) {
                return false;
            }
            s = past.remove(past.size() - 1);
            return true;
        }

        public void image() {
            image = s.copy();
        }

        public boolean back() {
            if (image == null) {
                return false;
            }
            s = image.copy();
            past.clear();
            return true;
        }

        public int count(int what) {
            long lying = s.rooms.stream().mapToLong(Room::all).sum();
            long[] all = {s.rooms.size(), s.doors.size(), s.people.size(), s.texts, s.law == null ? -1 : s.law.size(),
                s.round, lying, loads(s), s.gone, s.told, s.drained, s.clog, s.spent, s.log.size(), past.size()};
            if (lying + loads(s) + s.gone != s.told) {
                throw new IllegalStateException("the books do not add up");
            }
            return what < 0 || what > 14 ? -1 : (int) all[what];
        }
    }
}
