import java.lang.reflect.InvocationTargetException;
import java.lang.reflect.Method;
import java.util.ArrayList;
import java.util.Arrays;
import java.util.List;
import java.util.Random;

/** Random runs of 512 calls, each answer, the ROW and all counts held against the plain reading. */
public final class AgainstPlainTest {
    private static final int RUNS = 250;
    private static final int CALLS = 512;
    private static final int[] FAR_OFF = {Integer.MIN_VALUE, Integer.MIN_VALUE + 1, Integer.MAX_VALUE, Integer.MAX_VALUE - 1};
    private static final List<String> OF_A_BROTHER =
            List.of("brother", "tells", "moves", "eases", "preaches", "trims", "minds", "looks");

    private final Random random;
    private final ElderBallast x = new ElderBallast();
    private final Plain y = new Plain();
    private final List<String> calls = new ArrayList<>();
    private int left = CALLS;
    private final int kind;

    private AgainstPlainTest(long seed) {
        random = new Random(seed);
        kind = random.nextInt(3);
    }

    public static void main(String[] args) throws Exception {
        int runs = args.length > 0 ? Integer.parseInt(args[0]) : RUNS;
        long base = args.length > 1 ? Long.parseLong(args[1]) : 1000;
        for (int run = 0; run < runs; run++) {
            String wrong = new AgainstPlainTest(base + run).run();
            if (wrong != null) {
                System.out.println("run " + (base + run) + ": " + wrong);
                System.exit(1);
            }
        }
        System.out.println(runs + " random runs are as the plain reading says");
    }

    private String run() throws Exception {
        if (random.nextInt(4) > 0) {
            say(brothersText(), "brothers");
            say(windsText(), "winds");
        }
        while (left > 0) {
            String wrong = step();
            if (wrong != null) {
                return wrong + "\nbehind " + String.join(" ", calls.subList(Math.max(0, calls.size() - 60), calls.size()))
                        + "\nplain: " + y;
            }
        }
        return null;
    }

    private String step() throws Exception {
        if (kind == 1 && random.nextInt(3) > 0) {
            return stormyStep();
        }
        if (kind == 2 && random.nextInt(3) > 0) {
            return guessingStep();
        }
        switch (random.nextInt(16)) {
            case 0: return say(random.nextInt(3) == 0 ? broken(brothersText()) : brothersText(), "brothers");
            case 1: return say(random.nextInt(3) == 0 ? broken(windsText()) : windsText(), "winds");
            case 2: return say(random.nextInt(3) == 0 ? broken(ruleText()) : ruleText(), "rule");
            case 3: return say(random.nextInt(3) == 0 ? broken(ruleText()) : ruleText(), "law");
            case 4: return say(random.nextInt(3) == 0 ? broken(watchText()) : watchText(), "watch");
            case 5: return random.nextInt(4) == 0
                    ? say(random.nextInt(3) == 0 ? broken(digits(6)) : digits(6), "thoughts") : call("undo");
            default: return anyCall();
        }
    }

    /** Far voyages, so that LEAGUES and OVERS come to where they end. */
    private String stormyStep() throws Exception {
        switch (random.nextInt(12)) {
            case 0: return call("sails", 5 + random.nextInt(5));
            case 1: return say(pick("+-") + pick("789") + (random.nextBoolean() ? pick("+-") + pick("789") : ""), "winds");
            case 2: return say(random.nextBoolean() ? "0" : random.nextBoolean() ? "20" : "g+p*l", "rule");
            case 3: return call("moves", random.nextInt(Math.max(1, y.count(0))), random.nextInt(11) - 5);
            case 4: return call("best", 60 - random.nextInt(3));
            case 5: return call("over");
            case 6: return call("grave", random.nextInt(9), random.nextInt(11));
            case 7: return call("makes", 9999 - random.nextInt(2));
            default: return call("hours", 60 - random.nextInt(3));
        }
    }

    /** What was seen and heard, mostly as it is. */
    private String guessingStep() throws Exception {
        int b = random.nextInt(Math.max(1, y.count(0)));
        switch (random.nextInt(10)) {
            case 0: {
                int w = random.nextInt(19) - 9;
                int s = random.nextInt(10);
                return call("saw", w, s, y.pullIf(w, s) + (random.nextInt(5) == 0 ? 1 : 0));
            }
            case 1: return call("minds", b);
            case 2: return call("looks", b);
            case 3: return call("heard", random.nextInt(5), random.nextInt(3));
            case 4: return call("fits");
            case 5: return call("asks");
            case 6: return call("steps", random.nextInt(4));
            case 7: return call("swaps");
            case 8: return call("trims", b);
            default: return random.nextInt(4) == 0 ? call("denies") : random.nextInt(4) == 0 ? call("forget") : call("parties");
        }
    }

    private String anyCall() throws Exception {
        Method[] all = ElderBallast.class.getDeclaredMethods();
        List<Method> open = new ArrayList<>();
        for (Method m : all) {
            if (java.lang.reflect.Modifier.isPublic(m.getModifiers())) {
                open.add(m);
            }
        }
        open.sort((a, b) -> a.getName().compareTo(b.getName()));
        Method m = open.get(random.nextInt(open.size()));
        if (m.getName().equals("brothers") && random.nextBoolean()) {
            return null;
        }
        Object[] args = new Object[m.getParameterCount()];
        for (int i = 0; i < args.length; i++) {
            args[i] = argument(m.getName(), i);
        }
        return call(m.getName(), args);
    }

    private int argument(String name, int i) {
        if (random.nextInt(40) == 0) {
            return random.nextBoolean() ? random.nextInt() : FAR_OFF[random.nextInt(FAR_OFF.length)];
        }
        if (name.equals("sheet")) {
            return i == 0 ? random.nextInt(5) : i == 1 ? random.nextInt(10) - 1
                    : random.nextInt(3) == 0 ? random.nextInt(600) - 300 : random.nextInt(12) - 3;
        }
        if (i == 0 && OF_A_BROTHER.contains(name)) {
            return random.nextInt(y.count(0) + 1) - (random.nextInt(8) == 0 ? 1 : 0);
        }
        if (name.equals("years") && i == 0 || name.equals("sign")) {
            return random.nextInt();
        }
        if (name.equals("saw") && i == 2) {
            return random.nextInt(2) == 0 ? y.pullNow() : random.nextInt(9) - 4;
        }
        if (name.equals("makes")) {
            return y.count(4) + random.nextInt(400) - 50;
        }
        if (name.equals("count")) {
            return random.nextInt(16) - 1;
        }
        if (List.of("hours", "best", "years", "later", "rolls", "steady").contains(name) && i < 2) {
            return name.equals("steady") && i == 1 ? random.nextInt(23) - 1 : random.nextInt(104) - 2;
        }
        if (List.of("when").contains(name)) {
            return random.nextInt(46) - 23;
        }
        if (List.of("steps", "just", "rests").contains(name)) {
            return random.nextInt(name.equals("just") ? 60 : 23) - 1;
        }
        return random.nextInt(13) - (random.nextInt(3) == 0 ? 6 : 1);
    }

    private String call(String name, Object... args) throws Exception {
        left--;
        calls.add(name + Arrays.toString(args));
        String got = answer(x, name, args);
        String want = answer(y, name, args);
        if (!got.equals(want)) {
            return calls.get(calls.size() - 1) + " answered " + got + ", due is " + want;
        }
        // What is looked at here is free: only the calls of the run itself are counted.
        for (int i = 0; i < 14; i++) {
            if (x.count(i) != y.count(i)) {
                return "count(" + i + ") is " + x.count(i) + ", due is " + y.count(i);
            }
        }
        for (int i = 0; i < y.count(12); i++) {
            if (x.row(i) != y.row(i)) {
                return "row(" + i + ") is " + x.row(i) + ", due is " + y.row(i);
            }
        }
        return null;
    }

    private static String answer(Object of, String name, Object[] args) throws Exception {
        Class<?>[] types = new Class<?>[args.length];
        Arrays.fill(types, int.class);
        Method m = of.getClass().getDeclaredMethod(name, types);
        m.setAccessible(true);
        try {
            return String.valueOf(m.invoke(of, args));
        } catch (InvocationTargetException e) {
            return "throws " + e.getCause().getClass().getName();
        }
    }

    private String say(String text, String reader) throws Exception {
        String wrong = call("end", 0);
        for (int p = 0; p < text.length() && wrong == null; p += 4) {
            int v = 0;
            for (int i = p; i < p + 4; i++) {
                v = v << 8 | (i < text.length() ? text.charAt(i) & 255 : random.nextInt(256));
            }
            wrong = call("sign", v);
        }
        wrong = wrong == null ? call("end", text.length()) : wrong;
        calls.add("\"" + text + "\"");
        return wrong == null ? call(reader) : wrong;
    }

    private String pick(String of) {
        return String.valueOf(of.charAt(random.nextInt(of.length())));
    }

    private String digits(int n) {
        StringBuilder s = new StringBuilder();
        for (int i = 0; i < n; i++) {
            s.append(random.nextInt(10));
        }
        return s.toString();
    }

    private String brothersText() {
        List<String> lines = new ArrayList<>();
        int n = random.nextInt(6) == 0 ? 7 + random.nextInt(2) : random.nextInt(4);
        for (int i = 0; i < n; i++) {
            lines.add(digits(1) + pick("012345") + pick("+-") + pick("012345"));
        }
        return String.join(";", lines);
    }

    private String windsText() {
        StringBuilder s = new StringBuilder();
        int n = random.nextInt(8) == 0 ? 18 + random.nextInt(5) : 1 + random.nextInt(4);
        for (int i = 0; i < n; i++) {
            s.append(pick("+-")).append(random.nextInt(10));
        }
        return s.toString();
    }

    private String ruleText() {
        String s = expression(0);
        return s.length() > 60 || s.length() > 40 && random.nextInt(3) > 0 ? "g*t-p" : random.nextInt(12) == 0 ? "" : s;
    }

    private String expression(int deep) {
        StringBuilder s = new StringBuilder(thing(deep));
        boolean compared = false;
        int n = random.nextInt(5);
        for (int i = 0; i < n; i++) {
            boolean compare = !compared && random.nextInt(5) == 0;
            compared |= compare;
            s.append(compare ? pick("<>=") : pick("+-*/")).append(thing(deep));
        }
        return s.toString();
    }

    private String thing(int deep) {
        switch (random.nextInt(8)) {
            case 0: return digits(1 + random.nextInt(3));
            case 1: return "-" + thing(deep);
            case 2: return deep < 4 ? "(" + expression(deep + 1) + ")" : "g";
            default: return pick("gtkplin");
        }
    }

    private String watchText() {
        StringBuilder s = new StringBuilder();
        int n = random.nextInt(9) == 0 ? 15 + random.nextInt(8) : random.nextInt(6);
        for (int i = 0; i < n; i++) {
            String b = random.nextInt(6) == 0 ? digits(1) : String.valueOf(random.nextInt(Math.max(1, y.count(0))));
            switch (random.nextInt(6)) {
                case 0: s.append("n").append(random.nextInt(10)); break;
                case 1: s.append("t").append(b).append(pick("012345")); break;
                case 2: s.append("m").append(b).append(pick("+-")).append(pick("012345")); break;
                case 3: s.append("e").append(b); break;
                case 4: s.append("p").append(b).append(pick("123456789")); break;
                default: s.append("s").append(random.nextInt(10)); break;
            }
        }
        return s.length() > 80 ? s.substring(0, 80) : s.toString();
    }

    /** A text with a sign changed, put in, left out, or put behind it. */
    private String broken(String text) {
        StringBuilder s = new StringBuilder(text);
        String sign = random.nextInt(4) == 0 ? String.valueOf((char) random.nextInt(256)) : pick("0123456789+-;()<>=*/gtkplinmes~x");
        int at = random.nextInt(s.length() + 1);
        switch (random.nextInt(4)) {
            case 0: s.insert(at, sign); break;
            case 1: s.append(sign); break;
            case 2: s.setLength(at); break;
            default:
                if (at < s.length()) {
                    s.replace(at, at + 1, sign);
                }
        }
        return s.length() > 80 ? s.substring(0, 80) : s.toString();
    }
}
