import java.lang.reflect.InvocationTargetException;
import java.lang.reflect.Method;
import java.nio.charset.StandardCharsets;
import java.util.ArrayList;
import java.util.Arrays;
import java.util.List;
import java.util.Random;
import java.util.TreeMap;

/** Runs of calls drawn by fixed seeds, on the program and on Model; every answer must be the same. */
public final class RandomRunsTest {
    private static final String[] WORDS = {"person", "sight", "joint", "touch", "leans", "yes", "wish", "sitting",
        "far", "late", "turned", "aside", "stick", "top", "told", "strokes", "law", "spans", "odds", "two", "spread",
        "turn", "shape", "line", "felt", "said", "off", "or", "and", "not", "shown", "start", "slow", "way", "thing",
        "who", "sheet", "less", "cold", "x", ";", "(", ")", "+", "-", "*", "/", "<", "=", "0", "7", "12", "99", "100",
        "101", "999", "1000", "2001", "9999", "10000", "00001", "\t", "A", ">", "\u00e9", "\u0000"};
    private static final String[] VALUES = {"felt", "said", "shown", "start", "slow", "far", "late", "way", "thing",
        "told", "strokes", "who"};
    // what an object answers behind so many is free
    private static final int MOST_CALLS = 512;
    private static final int[] FARS = {0, 1, 30, 60, 150, 300, 999};
    private static final int[] LATES = {0, 80, 500, 2000};

    private final Random random;
    private final RubberHall hall = new RubberHall();
    private final Model model = new Model();
    private final TreeMap<String, Method[]> methods = new TreeMap<>();
    private final StringBuilder told = new StringBuilder();
    private final TreeMap<String, Integer> seen;
    private boolean wrong = false;
    private int calls = 0;
    private int people = 0;
    private int sittings = 0;

    private RandomRunsTest(long seed, TreeMap<String, Integer> seen) throws Exception {
        this.seen = seen;
        random = new Random(seed);
        for (Method m : RubberHall.class.getDeclaredMethods()) {
            if ((m.getModifiers() & java.lang.reflect.Modifier.PUBLIC) != 0) {
                Method other = Model.class.getMethod(m.getName(), m.getParameterTypes());
                methods.put(m.getName(), new Method[] {m, other});
            }
        }
    }

    private boolean chance(int percent) {
        return random.nextInt(100) < percent;
    }

    private int pick(int[] from) {
        return from[random.nextInt(from.length)];
    }

    private String pick(String[] from) {
        return from[random.nextInt(from.length)];
    }

    private int some(int least, int most) {
        return chance(8) ? (chance(50) ? least : most) : least + random.nextInt(most - least + 1);
    }

    private String perhaps(String word, int least, int most) {
        return chance(40) ? " " + word + " " + some(least, most) : "";
    }

    private String expr(int deep) {
        int kind = random.nextInt(deep > 8 ? 2 : 9);
        switch (kind) {
            case 0:
                return "" + (chance(80) ? random.nextInt(40) : random.nextInt(10000));
            case 1:
                return pick(VALUES);
            case 2:
                return "not ".repeat(1 + random.nextInt(chance(95) ? 2 : 8)) + expr(deep + 1);
            case 3:
                return "(" + expr(deep + 1) + ")";
            case 4:
                return expr(deep + 3) + (chance(50) ? "<" : "=") + expr(deep + 3);
            case 5:
                return expr(deep + 2) + (chance(50) ? " or " : " and ") + expr(deep + 2);
            case 6:
                return "(".repeat(random.nextInt(chance(95) ? 3 : 8)) + expr(deep + 2) + ")".repeat(random.nextInt(2));
            default:
                return expr(deep + 2) + pick(new String[] {"+", "-", "*", "/"}) + expr(deep + 2);
        }
    }

    private String houseText() {
        List<String> clauses = new ArrayList<>();
        people = chance(3) ? 20 + random.nextInt(2) : chance(15) ? 5 + random.nextInt(8) : random.nextInt(20) == 0 ? 0
            : 1 + random.nextInt(4);
        for (int i = 0; i < people; i++) {
            if (people > 12) {
                clauses.add("person sight" + some(1, 9) + "joint" + some(1, 9) + "touch1leans0");
            } else if (people > 4) {
                clauses.add("person sight " + some(1, 99) + " joint " + some(1, 99) + " touch 90 leans 400");
            } else {
                clauses.add("person sight " + some(1, 99) + " joint " + some(1, 99) + " touch " + some(1, 999) + " leans "
                    + some(0, 1000) + perhaps("yes", 0, 100) + perhaps("wish", 0, 100));
            }
        }
        sittings = chance(3) ? 20 + random.nextInt(2) : random.nextInt(20) == 0 ? 0 : 1 + random.nextInt(6);
        for (int i = 0; i < sittings; i++) {
            int far = chance(70) ? pick(FARS) : some(0, 999);
            clauses.add("sitting far" + (sittings < 20 ? " " + far + sittingTail() : "" + far));
        }
        int laws = chance(4) ? 6 + random.nextInt(2) : random.nextInt(20) == 0 ? 0 : 1 + random.nextInt(4);
        for (int i = 0; i < laws; i++) {
            clauses.add("law " + pick(new String[] {"odds", "odds", "spans", "wish"}) + perhaps("two", 1, 1000)
                + perhaps("spread", 1, 99) + perhaps("turn", 0, 1000) + perhaps("shape", 0, 1000));
        }
        int lines = chance(5) ? 12 + random.nextInt(2) : random.nextInt(5);
        for (int i = 0; i < lines; i++) {
            clauses.add("line " + (chance(65) ? "felt" : "said"));
        }
        int rules = chance(4) ? 4 + random.nextInt(2) : random.nextInt(2);
        for (int i = 0; i < rules; i++) {
            clauses.add("off " + (chance(60) ? "30*who<shown-" + random.nextInt(900) : expr(0)));
        }
        if (chance(20)) {
            java.util.Collections.shuffle(clauses, random);
        }
        StringBuilder text = new StringBuilder();
        for (String clause : clauses) {
            text.append(clause).append(chance(5) ? " \n;  " : ";");
        }
        return text.toString();
    }

    private String sittingTail() {
        return (chance(40) ? " late " + (chance(80) ? pick(LATES) : some(0, 2000)) : "")
            + (chance(30) ? chance(50) ? " turned" : " aside" : "") + (chance(30) ? chance(50) ? " stick" : " top" : "")
            + (chance(30) ? " told" : "") + perhaps("strokes", 0, chance(80) ? 20 : 600);
    }

    private String sheetsText() {
        StringBuilder text = new StringBuilder();
        int many = chance(20) ? 30 : random.nextInt(9);
        for (int i = 0; i < many; i++) {
            text.append("sheet ").append(index(people)).append(' ').append(index(sittings));
            int answers = random.nextInt(chance(90) ? Math.max(1, model.count(3) + 1) : 14);
            for (int j = 0; j < answers; j++) {
                text.append(' ').append(chance(98) ? random.nextInt(7) : some(0, 20));
            }
            text.append(chance(60) ? " shown " + (chance(20) ? "less " : "") + some(0, chance(80) ? 60 : 999) : "");
            text.append(perhaps("start", 0, 100)).append(chance(20) ? perhaps("slow", 0, 601) : "");
            text.append(chance(30) ? " cold " + (chance(60) ? "less " : "") + some(0, chance(80) ? 5 : 50) : "");
            text.append(';');
        }
        return text.toString();
    }

    private String spoilt(String text) {
        StringBuilder s = new StringBuilder(text);
        int times = 1 + random.nextInt(2);
        for (int i = 0; i < times; i++) {
            int at = random.nextInt(s.length() + 1);
            if (chance(50)) {
                // at a border of tokens
                while (at < s.length() && s.charAt(at) != ' ' && s.charAt(at) != ';') {
                    at++;
                }
            }
            if (chance(50) || at >= s.length()) {
                s.insert(at, (chance(70) ? " " : "") + pick(WORDS) + (chance(70) ? " " : ""));
            } else {
                s.delete(at, Math.min(s.length(), at + 1 + random.nextInt(6)));
            }
        }
        return s.toString();
    }

    private int index(int many) {
        return chance(3) ? random.nextInt(25) - 1 : random.nextInt(Math.max(1, many));
    }

    private void call(String name, int... args) {
        calls++;
        if (calls > MOST_CALLS) {
            return;
        }
        Object[] boxed = Arrays.stream(args).boxed().toArray();
        String got = answer(methods.get(name)[0], hall, boxed);
        String want = answer(methods.get(name)[1], model, boxed);
        if (told.length() < 20000) {
            told.append(name).append(Arrays.toString(args)).append(" -> ").append(got).append('\n');
        }
        seen.merge(name + (got.startsWith("throws") ? " " + got : ""), 1, Integer::sum);
        if (!got.equals(want)) {
            wrong = true;
            System.out.println(name + Arrays.toString(args) + " answered " + got + ", the model says " + want);
        }
    }

    private static String answer(Method m, Object on, Object[] args) {
        try {
            return String.valueOf(m.invoke(on, args));
        } catch (InvocationTargetException e) {
            Class<?> c = e.getCause().getClass();
            if (c != java.util.NoSuchElementException.class && c != IllegalArgumentException.class) {
                e.getCause().printStackTrace(System.out);
                return "throws " + c + " in " + on.getClass();
            }
            return "throws " + c.getSimpleName();
        } catch (IllegalAccessException e) {
            return e.toString();
        }
    }

    private void text(String name, String text) {
        byte[] bytes = text.getBytes(StandardCharsets.ISO_8859_1);
        byte[] padded = Arrays.copyOf(bytes, (bytes.length + 19) / 20 * 20);
        told.append(text).append('\n');
        for (int i = 0; i < padded.length; i += 20) {
            call("feed", Check.word(padded, i), Check.word(padded, i + 4), Check.word(padded, i + 8),
                Check.word(padded, i + 12), Check.word(padded, i + 16));
        }
        int n = Math.min(bytes.length, model.count(7));
        call(name, chance(2) ? random.nextInt(800) - 20 : n);
        call("fault");
    }

    private void spoiltOrNot(String name, String text) {
        int spoil = random.nextInt(3);
        for (int i = 0; i < spoil; i++) {
            text(name, spoilt(text));
        }
        text(name, text);
    }

    private int argument(String name, int i) {
        String kinds = switch (name) {
            case "count" -> "w";
            case "person" -> "pw";
            case "sitting" -> "sw";
            case "law" -> "lw";
            case "isSaid" -> "w";
            case "one" -> "lpsn";
            case "held", "falls" -> "lpsw";
            case "foretold" -> "lpsv";
            case "sheet" -> "ps";
            case "tell" -> "hvn";
            case "value" -> "hv";
            case "drawn" -> "lr";
            case "credit" -> "l";
            case "fails" -> "lw";
            case "beside" -> "ssww";
            case "parts" -> "s";
            case "looked" -> "nnn";
            case "at" -> "lpnr";
            case "spans" -> "lpw";
            default -> "wwwww";
        };
        if (chance(1)) {
            return random.nextInt();
        }
        switch (kinds.charAt(i)) {
            case 'p':
                return index(people);
            case 's':
                return index(sittings);
            case 'l':
                return index(model.count(2));
            case 'h':
                return index(model.count(5));
            case 'v':
                return chance(45) ? index(model.count(3)) : chance(85) ? 20 + random.nextInt(4)
                    : random.nextInt(name.equals("value") ? 36 : 25) - 1;
            case 'n':
                return chance(70) ? random.nextInt(44) - 2 : random.nextInt(1300) - 100;
            case 'r':
                return chance(50) ? random.nextInt() : random.nextInt(2100);
            default:
                return chance(15) ? random.nextInt(14) - 1 : random.nextInt(4);
        }
    }

    private void run() {
        List<String> names = new ArrayList<>(methods.keySet());
        names.removeAll(List.of("feed", "house", "sheets"));
        spoiltOrNot("house", houseText());
        for (int i = 0; i < 150 && !wrong; i++) {
            if (i == 10 || i == 70) {
                spoiltOrNot("sheets", sheetsText());
            }
            if (i == 20 && model.count(2) > 0 && chance(30)) {
                call("drawn", index(model.count(2)), random.nextInt());
            }
            if (i == 110 && chance(30)) {
                spoiltOrNot("house", houseText());
            }
            String name = chance(10) ? chance(50) ? "sheet" : "tell" : names.get(random.nextInt(names.size()));
            if (name.equals("drawn") && chance(80)) {
                continue;
            }
            int[] args = new int[methods.get(name)[0].getParameterCount()];
            for (int j = 0; j < args.length; j++) {
                args[j] = argument(name, j);
            }
            if (name.equals("weight") && chance(80)) {
                args[0] = random.nextInt(20002) - 10001;
                args[1] = random.nextInt(10002);
            }
            if (name.equals("looked") && chance(80)) {
                args = new int[] {1 + random.nextInt(40), random.nextInt(10), random.nextInt(101)};
            }
            if (name.equals("value") && chance(30)) {
                args[1] = 30 + random.nextInt(5);
            }
            call(name, args);
        }
        if (wrong) {
            System.out.println(told);
        }
    }

    public static void main(String[] args) throws Exception {
        int runs = args.length > 1 ? Integer.parseInt(args[1]) : 3000;
        long from = args.length > 2 ? Long.parseLong(args[2]) : 1;
        TreeMap<String, Integer> seen = new TreeMap<>();
        for (int i = 0; i < runs; i++) {
            RandomRunsTest test = new RandomRunsTest(from + i, seen);
            test.run();
            if (test.wrong) {
                System.out.println("in the run of seed " + (from + i));
                System.exit(1);
            }
        }
        System.out.println("RandomRunsTest: " + runs + " runs as the model says");
        if (args.length > 1) {
            System.out.println(seen);
        }
    }
}
