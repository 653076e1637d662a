import java.util.ArrayList;
import java.util.HashMap;
import java.util.List;
import java.util.Map;
import java.util.NoSuchElementException;
import java.util.function.ToIntFunction;
import java.util.regex.Matcher;
import java.util.regex.Pattern;

/**
 * The document once more, written apart from the program, in the plainest way and with the whole Java library:
 * RandomRunsTest lays the answers of both beside one another. Sums that might overflow are made with the Exact
 * functions, so that an overflow shows.
 */
public final class Model {
    private static final class Fault extends RuntimeException {
        final int kind;
        final int place;

        Fault(int kind, int place) {
            this.kind = kind;
            this.place = place;
        }
    }

    private record Token(String text, int place) {
        boolean isNumber() {
            return !text.isEmpty() && Character.isDigit(text.charAt(0)) && text.charAt(0) < 128;
        }

        boolean isWord() {
            return !text.isEmpty() && text.charAt(0) >= 'a' && text.charAt(0) <= 'z';
        }
    }

    private record Person(int sight, int joint, int touch, int leans, int yes, int wish) {
    }

    private record Sitting(int far, int late, int way, int thing, int told, int strokes) {
    }

    private record Law(int kind, int two, int spread, int turn, int shape) {
    }

    private interface Expr {
        int on(Map<String, Integer> values);
    }

    private static final class House {
        final List<Person> people = new ArrayList<>();
        final List<Sitting> sittings = new ArrayList<>();
        final List<Law> laws = new ArrayList<>();
        final List<Boolean> lines = new ArrayList<>();
        final List<Expr> rules = new ArrayList<>();
    }

    private static final class Sheet {
        int person;
        int sitting;
        int[] answers = new int[12];
        int shown;
        int start;
        int slow;
        Integer cold;

        Sheet(int person, int sitting) {
            this.person = person;
            this.sitting = sitting;
        }

        Sheet copy() {
            Sheet s = new Sheet(person, sitting);
            s.answers = answers.clone();
            s.shown = shown;
            s.start = start;
            s.slow = slow;
            s.cold = cold;
            return s;
        }
    }

    private static final List<String> VALUES = List.of("felt", "said", "shown", "start", "slow", "far", "late", "way",
            "thing", "told", "strokes", "who");

    private final StringBuilder tape = new StringBuilder();
    private House house = new House();
    private List<Sheet> sheets = new ArrayList<>();
    private List<Sheet> image = null;
    private int faultPlace = -1;
    private final int[] status = new int[3];

    // ---- texts

    private static final class Reader {
        final List<Token> tokens = new ArrayList<>();
        int at = 0;

        Reader(String text) {
            Matcher m = Pattern.compile("[ \\n]+|[a-z]+|[0-9]+|[\\x00-\\uffff]").matcher(text);
            while (m.find()) {
                if (m.group().charAt(0) != ' ' && m.group().charAt(0) != '\n') {
                    tokens.add(new Token(m.group(), m.start()));
                }
            }
            tokens.add(new Token("", text.length()));
        }

        Token now() {
            return tokens.get(at);
        }

        boolean ends() {
            return now().text.isEmpty();
        }

        boolean is(String s) {
            return now().text.equals(s);
        }

        boolean may(String s) {
            if (is(s)) {
                at++;
                return true;
            }
            return false;
        }

        void must(String s) {
            if (!may(s)) {
                throw new Fault(1, now().place);
            }
        }

        int number(int least, int most) {
            Token t = now();
            if (!t.isNumber()) {
                throw new Fault(1, t.place);
            }
            if (t.text.length() > 4) {
                throw new Fault(2, t.place);
            }
            int n = Integer.parseInt(t.text);
            if (n < least || n > most) {
                throw new Fault(2, t.place);
            }
            at++;
            return n;
        }

        int perhaps(String word, int least, int most, int without) {
            return may(word) ? number(least, most) : without;
        }

        int less(int most) {
            int sign = may("less") ? -1 : 1;
            return sign * number(0, most);
        }

        int place(int many) {
            Token t = now();
            int n = number(0, 9999);
            if (n >= many) {
                throw new Fault(4, t.place);
            }
            return n;
        }

        // EXPR

        Expr expr(int within) {
            if (within == 6 && (now().isNumber() || now().isWord() || is("("))) {
                throw new Fault(2, now().place);
            }
            Expr a = and(within);
            while (may("or")) {
                Expr l = a;
                Expr r = and(within);
                a = v -> {
                    int x = l.on(v);
                    int y = r.on(v);
                    return x != 0 || y != 0 ? 1 : 0;
                };
            }
            return a;
        }

        Expr and(int within) {
            Expr a = not(within, 0);
            while (may("and")) {
                Expr l = a;
                Expr r = not(within, 0);
                a = v -> l.on(v) != 0 && r.on(v) != 0 ? 1 : 0;
            }
            return a;
        }

        Expr not(int within, int nots) {
            if (is("not")) {
                if (nots == 6) {
                    throw new Fault(2, now().place);
                }
                at++;
                Expr e = not(within, nots + 1);
                return v -> e.on(v) == 0 ? 1 : 0;
            }
            Expr l = sum(within);
            if (may("<")) {
                Expr r = sum(within);
                return v -> l.on(v) < r.on(v) ? 1 : 0;
            }
            if (may("=")) {
                Expr r = sum(within);
                return v -> l.on(v) == r.on(v) ? 1 : 0;
            }
            return l;
        }

        Expr sum(int within) {
            Expr a = product(within);
            while (is("+") || is("-")) {
                boolean plus = may("+");
                if (!plus) {
                    at++;
                }
                Expr l = a;
                Expr r = product(within);
                a = plus ? v -> l.on(v) + r.on(v) : v -> l.on(v) - r.on(v);
            }
            return a;
        }

        Expr product(int within) {
            Expr a = part(within);
            while (is("*") || is("/")) {
                boolean times = may("*");
                if (!times) {
                    at++;
                }
                Expr l = a;
                Expr r = part(within);
                a = times ? v -> l.on(v) * r.on(v) : v -> r.on(v) == 0 ? 0 : l.on(v) / r.on(v);
            }
            return a;
        }

        Expr part(int within) {
            Token t = now();
            if (t.isNumber()) {
                int n = number(0, 9999);
                return v -> n;
            }
            if (t.isWord()) {
                if (!VALUES.contains(t.text)) {
                    throw new Fault(3, t.place);
                }
                at++;
                return v -> v.get(t.text);
            }
            must("(");
            Expr e = expr(within + 1);
            must(")");
            return e;
        }
    }

    private static void full(Reader r, List<?> list, int most) {
        if (list.size() == most) {
            throw new Fault(2, r.now().place);
        }
        r.at++;
    }

    private static House readHouse(String text) {
        Reader r = new Reader(text);
        House h = new House();
        while (!r.ends()) {
            switch (r.now().text) {
                case "person" -> {
                    full(r, h.people, 20);
                    r.must("sight");
                    int sight = r.number(1, 99);
                    r.must("joint");
                    int joint = r.number(1, 99);
                    r.must("touch");
                    int touch = r.number(1, 999);
                    r.must("leans");
                    int leans = r.number(0, 1000);
                    int yes = r.perhaps("yes", 0, 100, 0);
                    h.people.add(new Person(sight, joint, touch, leans, yes, r.perhaps("wish", 0, 100, 0)));
                }
                case "sitting" -> {
                    full(r, h.sittings, 20);
                    r.must("far");
                    int far = r.number(0, 999);
                    int late = r.perhaps("late", 0, 2000, 0);
                    int way = r.may("turned") ? 1 : r.may("aside") ? 2 : 0;
                    int thing = r.may("stick") ? 1 : r.may("top") ? 2 : 0;
                    int told = r.may("told") ? 1 : 0;
                    h.sittings.add(new Sitting(far, late, way, thing, told, r.perhaps("strokes", 0, 600, 60)));
                }
                case "law" -> {
                    full(r, h.laws, 6);
                    int kind = List.of("spans", "odds", "wish").indexOf(r.now().text);
                    if (kind < 0) {
                        throw new Fault(1, r.now().place);
                    }
                    r.at++;
                    int two = r.perhaps("two", 1, 1000, 300);
                    int spread = r.perhaps("spread", 1, 99, 20);
                    int turn = r.perhaps("turn", 0, 1000, 100);
                    h.laws.add(new Law(kind, two, spread, turn, r.perhaps("shape", 0, 1000, 300)));
                }
                case "line" -> {
                    full(r, h.lines, 12);
                    boolean felt = r.may("felt");
                    if (!felt) {
                        r.must("said");
                    }
                    h.lines.add(!felt);
                }
                case "off" -> {
                    full(r, h.rules, 4);
                    h.rules.add(r.expr(0));
                }
                default -> throw new Fault(1, r.now().place);
            }
            r.must(";");
        }
        return h;
    }

    private List<Sheet> readSheets(String text) {
        Reader r = new Reader(text);
        List<Sheet> came = new ArrayList<>();
        while (!r.ends()) {
            if (!r.is("sheet")) {
                throw new Fault(1, r.now().place);
            }
            if (sheets.size() + came.size() == 60) {
                throw new Fault(2, r.now().place);
            }
            r.at++;
            int person = r.place(house.people.size());
            Sheet s = new Sheet(person, r.place(house.sittings.size()));
            int line = 0;
            while (r.now().isNumber()) {
                Token t = r.now();
                int n = r.number(0, 6);
                if (line >= house.lines.size()) {
                    throw new Fault(4, t.place);
                }
                s.answers[line] = n - 3;
                line++;
            }
            if (r.may("shown")) {
                s.shown = r.less(999);
            }
            s.start = r.perhaps("start", 0, 100, 0);
            s.slow = r.perhaps("slow", 0, 601, 0);
            if (r.may("cold")) {
                s.cold = r.less(50);
            }
            r.must(";");
            came.add(s);
        }
        return came;
    }

    public int feed(int a, int b, int c, int d, int e) {
        if (tape.length() + 20 > 700) {
            return -1;
        }
        for (int n : new int[] {a, b, c, d, e}) {
            tape.append((char) (n >>> 24)).append((char) (n >>> 16 & 255)).append((char) (n >>> 8 & 255));
            tape.append((char) (n & 255));
        }
        return tape.length();
    }

    private String takeTape(int n) {
        if (n < 0 || n > tape.length()) {
            throw new IllegalArgumentException();
        }
        String text = tape.substring(0, n);
        tape.setLength(0);
        faultPlace = -1;
        return text;
    }

    public int house(int n) {
        String text = takeTape(n);
        try {
            house = readHouse(text);
            sheets = new ArrayList<>();
            image = null;
            return 0;
        } catch (Fault f) {
            status[0]++;
            faultPlace = f.place;
            return f.kind;
        }
    }

    public int sheets(int n) {
        String text = takeTape(n);
        try {
            List<Sheet> came = readSheets(text);
            sheets.addAll(came);
            return came.size();
        } catch (Fault f) {
            status[0]++;
            faultPlace = f.place;
            return -1 - f.kind;
        }
    }

    public int fault() {
        return faultPlace;
    }

    // ---- tables

    private static void there(boolean b) {
        if (!b) {
            throw new NoSuchElementException();
        }
    }

    private static void legal(boolean b) {
        if (!b) {
            throw new IllegalArgumentException();
        }
    }

    private static boolean in(int i, int n) {
        return i >= 0 && i < n;
    }

    private void needLaw(int law) {
        there(in(law, house.laws.size()));
    }

    private void needPerson(int person) {
        there(in(person, house.people.size()));
    }

    private void needSitting(int sitting) {
        there(in(sitting, house.sittings.size()));
    }

    public int count(int what) {
        there(in(what, 11));
        return new int[] {house.people.size(), house.sittings.size(), house.laws.size(), house.lines.size(),
            house.rules.size(), sheets.size(), counting().size(), tape.length(), status[0], status[1], status[2]}[what];
    }

    public int person(int person, int what) {
        needPerson(person);
        there(in(what, 7));
        Person p = house.people.get(person);
        return new int[] {p.sight, p.joint, p.touch, p.leans, p.yes, p.wish, saysYes(person) ? 1 : 0}[what];
    }

    public int sitting(int sitting, int what) {
        needSitting(sitting);
        there(in(what, 6));
        Sitting s = house.sittings.get(sitting);
        return new int[] {s.far, s.late, s.way, s.thing, s.told, s.strokes}[what];
    }

    public int law(int law, int what) {
        needLaw(law);
        there(in(what, 5));
        Law l = house.laws.get(law);
        return new int[] {l.kind, l.two, l.spread, l.turn, l.shape}[what];
    }

    public boolean isSaid(int line) {
        there(in(line, house.lines.size()));
        return house.lines.get(line);
    }

    // ---- heads

    private static int w(long d, long s) {
        return Math.toIntExact(Math.multiplyExact(1000000L, s * s) / (s * s + d * d));
    }

    public int weight(int difference, int span) {
        legal(span >= 1 && span <= 9999 && difference >= -9999 && difference <= 9999);
        return w(difference, span);
    }

    private static long pull(Law l, long one, long g) {
        long a = Math.multiplyExact(one, g);
        long b = Math.multiplyExact(Math.multiplyExact(1000000 - one, 1000L), (long) l.two);
        return a + b == 0 ? 0 : Math.multiplyExact(a, 1000000L) / (a + b);
    }

    private static long oneOf(Law l, Person p, Sitting s, int n) {
        long one = 1000L * p.leans;
        one = pull(l, one, w(s.far, p.sight + p.joint));
        if (s.way == 1) {
            one = pull(l, one, 1000L * l.turn);
        }
        if (s.way == 2) {
            one = pull(l, one, 1000L * ((1000 + l.turn) / 2));
        }
        if (s.thing == 1) {
            one = pull(l, one, 1000L * l.shape);
        }
        if (s.thing == 2) {
            one = pull(l, one, 1000L * (l.shape / 2));
        }
        if (s.told == 0) {
            for (int i = 0; i < n; i++) {
                one = pull(l, one, w(s.late, p.touch));
            }
        }
        return one;
    }

    private static long heldOf(Law l, Person p, Sitting s) {
        return l.kind == 0 ? 1000000 : l.kind == 2 ? 10000L * p.wish : oneOf(l, p, s, s.strokes);
    }

    private static int driftOf(Law l, Person p, Sitting s) {
        if (l.kind == 2) {
            return s.far * p.wish / 100;
        }
        long jj = p.joint * p.joint;
        long ss = p.sight * p.sight;
        return Math.toIntExact(Math.multiplyExact(s.far * jj, heldOf(l, p, s)) / ((jj + ss) * 1000000));
    }

    private static int comesOf(Law l, Person p, Sitting s) {
        // a stroke more at a time, each pulled anew from the one before
        long one = oneOf(l, p, s, 0);
        for (int i = 0; i <= s.strokes; i++) {
            if (one >= 500000) {
                return i;
            }
            one = s.told == 1 ? one : pull(l, one, w(s.late, p.touch));
        }
        return -1;
    }

    public int one(int law, int person, int sitting, int strokes) {
        needLaw(law);
        needPerson(person);
        needSitting(sitting);
        legal(strokes >= 0 && strokes <= house.sittings.get(sitting).strokes);
        return (int) oneOf(house.laws.get(law), house.people.get(person), house.sittings.get(sitting), strokes);
    }

    public int held(int law, int person, int sitting, int what) {
        needLaw(law);
        needPerson(person);
        needSitting(sitting);
        there(in(what, 3));
        Law l = house.laws.get(law);
        Person p = house.people.get(person);
        Sitting s = house.sittings.get(sitting);
        return what == 0 ? (int) heldOf(l, p, s) : what == 1 ? driftOf(l, p, s) : comesOf(l, p, s);
    }

    private int foretell(int law, int person, int sitting, int what) {
        Law l = house.laws.get(law);
        Person p = house.people.get(person);
        Sitting s = house.sittings.get(sitting);
        if (what == 20) {
            return driftOf(l, p, s);
        }
        if (what == 21) {
            return (int) (100 * heldOf(l, p, s) / 1000000);
        }
        if (what == 22) {
            int comes = comesOf(l, p, s);
            return l.kind == 0 ? 0 : l.kind == 2 ? s.strokes - s.strokes * p.wish / 100
                : comes < 0 ? s.strokes + 1 : comes;
        }
        if (house.lines.get(what)) {
            return 6 * p.yes / 100 - 3;
        }
        return s.told == 1 ? 6 * p.wish / 100 - 3 : (int) (6 * heldOf(l, p, s) / 1000000) - 3;
    }

    public int foretold(int law, int person, int sitting, int what) {
        needLaw(law);
        needPerson(person);
        needSitting(sitting);
        there(in(what, house.lines.size()) || what >= 20 && what <= 22);
        return foretell(law, person, sitting, what);
    }

    // ---- sheets

    public int sheet(int person, int sitting) {
        needPerson(person);
        needSitting(sitting);
        if (sheets.size() == 60) {
            status[2]++;
            return -1;
        }
        sheets.add(new Sheet(person, sitting));
        return sheets.size() - 1;
    }

    public boolean tell(int sheet, int what, int value) {
        there(in(sheet, sheets.size()));
        boolean line = in(what, house.lines.size());
        there(line || what >= 20 && what <= 23);
        int least = line ? -3 : new int[] {-999, 0, 0, -50}[what - 20];
        int most = line ? 3 : new int[] {999, 100, 601, 50}[what - 20];
        if (value < least || value > most) {
            status[1]++;
            return false;
        }
        set(sheets.get(sheet), what, value);
        return true;
    }

    private static void set(Sheet s, int what, int value) {
        switch (what) {
            case 20 -> s.shown = value;
            case 21 -> s.start = value;
            case 22 -> s.slow = value;
            case 23 -> s.cold = value;
            default -> s.answers[what] = value;
        }
    }

    private int sumOf(Sheet s, boolean said) {
        int sum = 0;
        for (int i = 0; i < house.lines.size(); i++) {
            sum += house.lines.get(i) == said ? s.answers[i] : 0;
        }
        return sum;
    }

    private int felt(Sheet s) {
        return sumOf(s, false);
    }

    private boolean saysYes(int person) {
        return sheets.stream().filter(s -> s.person == person).mapToInt(s -> sumOf(s, true)).sum() > 0;
    }

    private int off(Sheet s) {
        Sitting t = house.sittings.get(s.sitting);
        Map<String, Integer> v = new HashMap<>();
        v.put("felt", felt(s));
        v.put("said", sumOf(s, true));
        v.put("shown", s.shown);
        v.put("start", s.start);
        v.put("slow", s.slow);
        v.put("far", t.far);
        v.put("late", t.late);
        v.put("way", t.way);
        v.put("thing", t.thing);
        v.put("told", t.told);
        v.put("strokes", t.strokes);
        v.put("who", s.person);
        for (int i = 0; i < house.rules.size(); i++) {
            if (house.rules.get(i).on(v) != 0) {
                return i;
            }
        }
        return saysYes(s.person) ? -2 : -1;
    }

    private List<Sheet> counting() {
        return sheets.stream().filter(s -> off(s) == -1).toList();
    }

    public int value(int sheet, int what) {
        there(in(sheet, sheets.size()));
        Sheet s = sheets.get(sheet);
        if (in(what, house.lines.size())) {
            return s.answers[what];
        }
        return switch (what) {
            case 20 -> s.shown;
            case 21 -> s.start;
            case 22 -> s.slow;
            case 23 -> s.cold == null ? 100 : s.cold;
            case 30 -> s.person;
            case 31 -> s.sitting;
            case 32 -> felt(s);
            case 33 -> sumOf(s, true);
            case 34 -> off(s);
            default -> throw new NoSuchElementException();
        };
    }

    public int drawn(int law, int seed) {
        needLaw(law);
        sheets = new ArrayList<>();
        int now = seed;
        for (int p = 0; p < house.people.size(); p++) {
            for (int t = 0; t < house.sittings.size(); t++) {
                if (sheets.size() == 60) {
                    return 60;
                }
                Sheet s = new Sheet(p, t);
                List<Integer> whats = new ArrayList<>();
                for (int i = 0; i < house.lines.size(); i++) {
                    whats.add(i);
                }
                whats.addAll(List.of(20, 21, 22));
                for (int what : whats) {
                    int spread = house.laws.get(law).spread;
                    int n = what == 20 ? spread + spread + 1 : what == 21 ? 21 : what == 22 ? 11 : 3;
                    int less = what == 20 ? spread : what == 21 ? 10 : what == 22 ? 5 : 1;
                    now = now * 1103515245 + 12345;
                    int number = foretell(law, p, t, what) + ((now & 0x7fff0000) >> 16) % n - less;
                    int least = what == 20 ? -999 : what > 20 ? 0 : -3;
                    int most = what == 20 ? 999 : what == 21 ? 100 : what == 22 ? 601 : 3;
                    set(s, what, number < least ? least : number > most ? most : number);
                }
                sheets.add(s);
            }
        }
        return sheets.size();
    }

    // ---- what is found in them

    public int credit(int law) {
        needLaw(law);
        int n = house.laws.size();
        long[] credit = new long[n];
        java.util.Arrays.fill(credit, 1000000 / n);
        for (Sheet s : counting()) {
            long all = 0;
            for (int i = 0; i < n; i++) {
                credit[i] = Math.multiplyExact(credit[i], fit(s, i));
                all = Math.addExact(all, credit[i]);
            }
            for (int i = 0; i < n; i++) {
                credit[i] = Math.multiplyExact(credit[i], 1000000L) / all;
            }
        }
        return (int) credit[law];
    }

    private long fit(Sheet s, int law) {
        long fit = by(1000000, s.shown - foretell(law, s.person, s.sitting, 20), house.laws.get(law).spread);
        fit = by(fit, s.start - foretell(law, s.person, s.sitting, 21), 10);
        for (int i = 0; i < house.lines.size(); i++) {
            fit = by(fit, s.answers[i] - foretell(law, s.person, s.sitting, i), 2);
        }
        return fit;
    }

    private static long by(long fit, int d, int s) {
        long factor = w(d, s) / 1000;
        if (factor < 1) {
            factor = 1;
        }
        long now = fit * factor / 1000;
        return now < 1 ? 1 : now;
    }

    public int fails(int law, int what) {
        needLaw(law);
        there(in(what, 4));
        List<Sheet> c = counting();
        ToIntFunction<Sheet> told = s -> foretell(law, s.person, s.sitting, 20);
        if (what == 0) {
            return c.stream().mapToInt(s -> Math.abs(s.shown - told.applyAsInt(s))).sum();
        }
        int[] n = new int[4];
        for (int i = 0; i < c.size(); i++) {
            for (int j = 0; j < i; j++) {
                Sheet a = c.get(i);
                Sheet b = c.get(j);
                if (a.sitting == b.sitting) {
                    int d = told.applyAsInt(a) - told.applyAsInt(b);
                    int e = a.shown - b.shown;
                    if (d != 0) {
                        n[e == 0 ? 3 : d > 0 == e > 0 ? 1 : 2]++;
                    }
                }
            }
        }
        return n[what];
    }

    public int apart(int what) {
        there(in(what, 3));
        int[] n = new int[3];
        List<Sheet> c = counting();
        for (int i = 0; i < c.size(); i++) {
            for (int j = 0; j < i; j++) {
                int d = (felt(c.get(i)) - felt(c.get(j))) * (c.get(i).shown - c.get(j).shown);
                n[d > 0 ? 0 : d < 0 ? 1 : 2]++;
            }
        }
        return n[what];
    }

    public int beside(int sitting, int other, int number, int what) {
        needSitting(sitting);
        needSitting(other);
        there(in(number, 4) && in(what, 3));
        ToIntFunction<Sheet> f = s -> new int[] {felt(s), s.shown, s.start, s.slow}[number];
        int[] a = counting().stream().filter(s -> s.sitting == sitting).mapToInt(f).toArray();
        int[] b = counting().stream().filter(s -> s.sitting == other).mapToInt(f).toArray();
        if (sitting == other || a.length > 10 || b.length > 10) {
            return -1;
        }
        int sum = java.util.Arrays.stream(a).sum();
        if (what == 0) {
            return sum;
        }
        int[] all = java.util.Arrays.copyOf(a, a.length + b.length);
        System.arraycopy(b, 0, all, a.length, b.length);
        int ways = 0;
        int great = 0;
        for (int mask = 0; mask < 1 << all.length; mask++) {
            if (Integer.bitCount(mask) == a.length) {
                int now = 0;
                for (int i = 0; i < all.length; i++) {
                    now += (mask >> i & 1) * all[i];
                }
                ways++;
                great += now >= sum ? 1 : 0;
            }
        }
        return what == 1 ? great : ways;
    }

    public int wished(int what) {
        there(in(what, 2));
        int n = 0;
        for (Sheet a : counting()) {
            for (Sheet b : counting()) {
                Sitting s = house.sittings.get(a.sitting);
                Sitting t = house.sittings.get(b.sitting);
                boolean couple = s.told == 1 && t.told == 0 && a.person == b.person && s.far == t.far
                        && s.late == t.late && s.way == t.way && s.thing == t.thing;
                n += couple && (what == 0 || felt(a) >= felt(b)) ? 1 : 0;
            }
        }
        return n;
    }

    public int slope(int what) {
        there(in(what, 2));
        List<Sheet> c = counting();
        long n = c.size();
        ToIntFunction<Sheet> f = s -> what == 0 ? house.sittings.get(s.sitting).far : house.sittings.get(s.sitting).late;
        long x = c.stream().mapToLong(f::applyAsInt).sum();
        long y = c.stream().mapToLong(s -> s.shown).sum();
        long xx = c.stream().mapToLong(s -> (long) f.applyAsInt(s) * f.applyAsInt(s)).sum();
        long xy = c.stream().mapToLong(s -> (long) f.applyAsInt(s) * s.shown).sum();
        legal(n * xx - x * x != 0);
        long above = (n * xy - x * y) * 1000;
        long below = n * xx - x * x;
        return (int) (above % below < 0 ? above / below - 1 : above / below);
    }

    public int share(int what) {
        there(in(what, 6));
        List<Sheet> c = counting().stream().filter(s -> what < 3 ? house.sittings.get(s.sitting).thing == what
            : house.sittings.get(s.sitting).way == what - 3).toList();
        legal(!c.isEmpty());
        return (int) Math.floor(c.stream().mapToInt(s -> s.shown).sum() / (double) c.size());
    }

    public int parts(int sitting) {
        needSitting(sitting);
        int least = Integer.MAX_VALUE;
        for (int i = 0; i < house.laws.size(); i++) {
            for (int j = 0; j < i; j++) {
                int sum = 0;
                for (int p = 0; p < house.people.size(); p++) {
                    sum += Math.abs(foretell(i, p, sitting, 20) - foretell(j, p, sitting, 20));
                }
                least = Math.min(least, sum);
            }
        }
        return house.laws.size() < 2 ? 0 : least;
    }

    public int next() {
        int best = -1;
        for (int i = house.sittings.size() - 1; i >= 0; i--) {
            if (best < 0 || parts(i) >= parts(best)) {
                best = i;
            }
        }
        return best;
    }

    public int looked(int n, int k, int chance) {
        legal(n >= 1 && n <= 40 && k >= 0 && k <= n && chance >= 0 && chance <= 100);
        int[] now = new int[42];
        now[0] = 1000000;
        for (int i = 0; i < n; i++) {
            int[] then = new int[42];
            for (int j = 0; j < 42; j++) {
                then[j] = (now[j] * (100 - chance) + (j == 0 ? 0 : now[j - 1]) * chance) / 100;
            }
            now = then;
        }
        int sum = 0;
        for (int j = k; j < 42; j++) {
            sum += now[j];
        }
        return sum;
    }

    public int at(int law, int person, int far, int late) {
        needLaw(law);
        needPerson(person);
        legal(far >= 0 && far <= 999 && late >= 0 && late <= 2000);
        return (int) heldOf(house.laws.get(law), house.people.get(person), new Sitting(far, late, 0, 0, 0, 60));
    }

    public int falls(int law, int person, int sitting, int what) {
        needLaw(law);
        needPerson(person);
        needSitting(sitting);
        there(in(what, 2));
        if (what == 0) {
            for (int far = 0; far < 1000; far++) {
                if (at(law, person, far, 0) < 500000) {
                    return far;
                }
            }
            return -1;
        }
        for (int late = 0; late < 2001; late += 10) {
            if (at(law, person, house.sittings.get(sitting).far, late) < 500000) {
                return late;
            }
        }
        return -1;
    }

    public int spans(int law, int person, int what) {
        needLaw(law);
        needPerson(person);
        there(in(what, 3));
        List<Sheet> c = counting().stream().filter(s -> s.person == person).toList();
        if (c.isEmpty()) {
            return -1;
        }
        Person p = house.people.get(person);
        int[] best = null;
        for (int sight = 95; sight > 0; sight -= 10) {
            for (int joint = 95; joint > 0; joint -= 10) {
                Person q = new Person(sight, joint, p.touch, p.leans, p.yes, p.wish);
                int sum = 0;
                for (Sheet s : c) {
                    sum += Math.abs(s.shown - driftOf(house.laws.get(law), q, house.sittings.get(s.sitting)));
                }
                if (best == null || sum <= best[2]) {
                    best = new int[] {sight, joint, sum};
                }
            }
        }
        return best[what];
    }

    public int cold(int what) {
        there(in(what, 4));
        List<Sheet> c = counting().stream().filter(s -> s.cold != null).toList();
        int could = 0;
        int did = 0;
        for (int p = 0; p < house.people.size(); p++) {
            int who = p;
            List<Sheet> of = c.stream().filter(s -> s.person == who).toList();
            if (of.size() >= 2 && of.get(0).cold <= -2) {
                could++;
                did += of.get(1).cold <= -2 ? 1 : 0;
            }
        }
        return new int[] {c.size(), (int) c.stream().filter(s -> s.cold <= -2).count(), could, did}[what];
    }

    public void image() {
        image = new ArrayList<>(sheets.stream().map(Sheet::copy).toList());
    }

    public boolean restore() {
        if (image == null) {
            return false;
        }
        sheets = new ArrayList<>(image.stream().map(Sheet::copy).toList());
        return true;
    }
}
