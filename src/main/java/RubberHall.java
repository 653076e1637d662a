import java.util.NoSuchElementException;

/**
 * A hand of rubber: heads that join what is seen, touched and felt, laws by which they do it, and sheets of
 * answers that are held against what the laws foretell. Words in capitals are those of the document, DOC.md.
 */
public final class RubberHall {
    public static final int NONE = -1;

    private static final int MILLION = 1000000;
    private static final int HALF = 500000;

    private static final int MOST_BYTES = 700;
    private static final int MOST_SHEETS = 60;
    private static final int MOST_LINES = 12;
    private static final int MOST_NUMBER = 9999;

    // the kinds of rows of a HOUSE, numbered as in count()
    private static final int PEOPLE = 0;
    private static final int SITTINGS = 1;
    private static final int LAWS = 2;
    private static final int LINES = 3;
    private static final int RULES = 4;

    // what is told of a PERSON
    private static final int SIGHT = 0;
    private static final int JOINT = 1;
    private static final int TOUCH = 2;
    private static final int LEANS = 3;
    private static final int YES = 4;
    private static final int WISH = 5;
    private static final int SAYS_YES = 6;

    // what is told of a SITTING
    private static final int FAR = 0;
    private static final int LATE = 1;
    private static final int WAY = 2;
    private static final int THING = 3;
    private static final int TOLD = 4;
    private static final int STROKES = 5;

    // what is told of a LAW
    private static final int KIND = 0;
    private static final int TWO = 1;
    private static final int SPREAD = 2;
    private static final int TURN = 3;
    private static final int SHAPE = 4;

    private static final int KIND_SPANS = 0;
    private static final int KIND_WISH = 2;

    // the columns of a SHEET; those ahead of SHOWN are its answers
    private static final int SHOWN = 12;
    private static final int START = 13;
    private static final int SLOW = 14;
    private static final int COLD = 15;
    private static final int WHO = 16;
    private static final int WHERE = 17;

    private static final int NOT_LOOKED = 100;
    private static final int OFF_BY_YES = -2;

    private final Tape tape = new Tape();
    private final House house = new House();
    private final House spare = new House();
    private final RuleReader rules = new RuleReader();
    private final Sheets sheets = new Sheets();
    private final Sheets image = new Sheets();
    private final Sieve sieve = new Sieve();
    private final Head head = new Head();
    private final Ways ways = new Ways();
    private final int[] status = new int[3];
    private final int[] shownForetold = new int[MOST_SHEETS];
    private final int[] shownByLaw = new int[120];
    private final int[] credits = new int[6];
    private final int[] fits = new int[6];
    private final int[] found = new int[41];
    private boolean imageKept;
    private int faultPlace;

    public RubberHall() {
        faultPlace = NONE;
    }

    public int feed(int a, int b, int c, int d, int e) {
        if (tape.size + 20 > MOST_BYTES) {
            return NONE;
        }
        tape.append(a);
        tape.append(b);
        tape.append(c);
        tape.append(d);
        tape.append(e);
        return tape.size;
    }

    public int house(int n) throws IllegalArgumentException {
        allow(n >= 0 && n <= tape.size);
        tape.open(n);
        HouseReader.readHouse(tape, spare, rules);
        closeTape();
        if (tape.fault == 0) {
            house.copyFrom(spare);
            sheets.many = 0;
            imageKept = false;
        }
        return tape.fault;
    }

    public int sheets(int n) throws IllegalArgumentException {
        allow(n >= 0 && n <= tape.size);
        tape.open(n);
        int came = SheetReader.readSheets(tape, house, sheets);
        closeTape();
        if (tape.fault != 0) {
            return -1 - tape.fault;
        }
        sheets.many += came;
        return came;
    }

    public int fault() {
        return faultPlace;
    }

    public int count(int what) throws NoSuchElementException {
        demand(what >= 0 && what <= 10);
        if (what <= RULES) {
            return house.howMany(what);
        }
        if (what == 5) {
            return sheets.many;
        }
        if (what == 6) {
            sieve.sift(house, sheets);
            return sieve.counting;
        }
        return what == 7 ? tape.size : cell(status, what - 8);
    }

    public int person(int person, int what) throws NoSuchElementException {
        demand(house.has(PEOPLE, person) && what >= 0 && what <= SAYS_YES);
        if (what == SAYS_YES) {
            sieve.sift(house, sheets);
            return sieve.saysYes(person) ? 1 : 0;
        }
        return house.told(PEOPLE, person, what);
    }

    public int sitting(int sitting, int what) throws NoSuchElementException {
        demand(house.has(SITTINGS, sitting) && what >= 0 && what <= STROKES);
        return house.told(SITTINGS, sitting, what);
    }

    public int law(int law, int what) throws NoSuchElementException {
        demand(house.has(LAWS, law) && what >= 0 && what <= SHAPE);
        return house.told(LAWS, law, what);
    }

    public boolean isSaid(int line) throws NoSuchElementException {
        demand(house.has(LINES, line));
        return house.lineIsSaid(line);
    }

    public int weight(int difference, int span) throws IllegalArgumentException {
        allow(span >= 1 && span <= 9999 && difference >= -9999 && difference <= 9999);
        return weightOf(difference, span);
    }

    public int one(int law, int person, int sitting, int strokes)
            throws NoSuchElementException, IllegalArgumentException {
        demandAll(law, person, sitting);
        allow(strokes >= 0 && strokes <= house.told(SITTINGS, sitting, STROKES));
        head.take(house, law, person, sitting);
        return head.oneBehind(strokes);
    }

    public int held(int law, int person, int sitting, int what) throws NoSuchElementException {
        demandAll(law, person, sitting);
        demand(what >= 0 && what <= 2);
        head.take(house, law, person, sitting);
        if (what == 2) {
            return head.comes();
        }
        head.settle();
        return what == 0 ? head.held : head.drift();
    }

    public int foretold(int law, int person, int sitting, int what) throws NoSuchElementException {
        demandAll(law, person, sitting);
        int column = columnOf(what, 22);
        demand(column >= 0);
        head.take(house, law, person, sitting);
        head.settle();
        return head.foretells(column, house.lineIsSaid(column));
    }

    public int sheet(int person, int sitting) throws NoSuchElementException {
        demand(house.has(PEOPLE, person) && house.has(SITTINGS, sitting));
        if (sheets.many >= MOST_SHEETS) {
            countRefusal(2);
            return NONE;
        }
        sheets.lay(sheets.many, person, sitting);
        sheets.many++;
        return sheets.many - 1;
    }

    public boolean tell(int sheet, int what, int value) throws NoSuchElementException {
        int column = columnOf(what, 23);
        demand(sheets.has(sheet) && column >= 0);
        if (value < Sheets.least(column) || value > Sheets.most(column)) {
            countRefusal(1);
            return false;
        }
        sheets.set(sheet, column, value);
        return true;
    }

    public int value(int sheet, int what) throws NoSuchElementException {
        int column = columnOf(what, 23);
        demand(sheets.has(sheet) && (column >= 0 || what >= 30 && what <= 34));
        if (column >= 0) {
            return sheets.get(sheet, column);
        }
        sieve.sift(house, sheets);
        switch (what) {
            case 30:
                return sheets.get(sheet, WHO);
            case 31:
                return sheets.get(sheet, WHERE);
            case 32:
                return sieve.feltOf(sheet);
            case 33:
                return sieve.saidOf(sheet);
            default:
                return sieve.offBy(sheet);
        }
    }

    public int drawn(int law, int seed) throws NoSuchElementException {
        demand(house.has(LAWS, law));
        sheets.many = 0;
        int people = house.howMany(PEOPLE);
        int sittings = house.howMany(SITTINGS);
        int now = seed;
        for (int i = 0; i < people; i++) {
            for (int j = 0; j < sittings && sheets.many < MOST_SHEETS; j++) {
                head.take(house, law, i, j);
                head.settle();
                sheets.lay(sheets.many, i, j);
                now = drawSheet(sheets.many, house.told(LAWS, law, SPREAD), now);
                sheets.many++;
            }
        }
        return sheets.many;
    }

    public int credit(int law) throws NoSuchElementException {
        demand(house.has(LAWS, law));
        sieve.sift(house, sheets);
        int laws = house.howMany(LAWS);
        for (int i = 0; i < laws; i++) {
            put(credits, i, laws == 0 ? 0 : MILLION / laws);
        }
        for (int i = 0; i < sheets.many; i++) {
            if (sieve.counts(i)) {
                layByFit(i, laws);
            }
        }
        return cell(credits, law);
    }

    public int fails(int law, int what) throws NoSuchElementException {
        demand(house.has(LAWS, law) && what >= 0 && what <= 3);
        sieve.sift(house, sheets);
        foretellShown(law);
        return what == 0 ? failsTogether() : couplesForetold(what);
    }

    public int apart(int what) throws NoSuchElementException {
        demand(what >= 0 && what <= 2);
        sieve.sift(house, sheets);
        int couples = 0;
        for (int i = 0; i < sheets.many; i++) {
            for (int j = i + 1; j < sheets.many; j++) {
                if (sieve.counts(i) && sieve.counts(j) && apartOf(i, j) == what) {
                    couples++;
                }
            }
        }
        return couples;
    }

    public int beside(int sitting, int other, int number, int what) throws NoSuchElementException {
        demand(house.has(SITTINGS, sitting) && house.has(SITTINGS, other));
        demand(number >= 0 && number <= 3 && what >= 0 && what <= 2);
        if (sitting == other) {
            return NONE;
        }
        sieve.sift(house, sheets);
        ways.clear();
        int first = gather(sitting, number);
        int second = gather(other, number);
        if (first > Ways.MOST_OF_ONE || second > Ways.MOST_OF_ONE) {
            return NONE;
        }
        if (what == 0) {
            return ways.sumOfFirst(first);
        }
        return what == 1 ? ways.asGreat(first) : Ways.choose(first + second, first);
    }

    public int wished(int what) throws NoSuchElementException {
        demand(what == 0 || what == 1);
        sieve.sift(house, sheets);
        int couples = 0;
        for (int i = 0; i < sheets.many; i++) {
            for (int j = 0; j < sheets.many; j++) {
                if (isWishedCouple(i, j) && (what == 0 || sieve.feltOf(i) >= sieve.feltOf(j))) {
                    couples++;
                }
            }
        }
        return couples;
    }

    public int slope(int what) throws NoSuchElementException, IllegalArgumentException {
        demand(what == FAR || what == LATE);
        sieve.sift(house, sheets);
        long x = 0;
        long y = 0;
        long xx = 0;
        long xy = 0;
        for (int i = 0; i < sheets.many; i++) {
            if (sieve.counts(i)) {
                long across = house.told(SITTINGS, sheets.get(i, WHERE), what);
                long up = sheets.get(i, SHOWN);
                x += across;
                y += up;
                xx += across * across;
                xy += across * up;
            }
        }
        long below = sieve.counting * xx - x * x;
        allow(below != 0);
        return (int) cutTowardsLess((sieve.counting * xy - x * y) * 1000, below);
    }

    public int share(int what) throws NoSuchElementException, IllegalArgumentException {
        demand(what >= 0 && what <= 5);
        sieve.sift(house, sheets);
        int column = what < 3 ? THING : WAY;
        int many = 0;
        int together = 0;
        for (int i = 0; i < sheets.many; i++) {
            if (sieve.counts(i) && house.told(SITTINGS, sheets.get(i, WHERE), column) == what % 3) {
                many++;
                together += sheets.get(i, SHOWN);
            }
        }
        allow(many > 0);
        return (int) cutTowardsLess(together, many);
    }

    public int parts(int sitting) throws NoSuchElementException {
        demand(house.has(SITTINGS, sitting));
        return partsOf(sitting);
    }

    public int next() {
        int best = NONE;
        int most = NONE;
        int sittings = house.howMany(SITTINGS);
        for (int i = 0; i < sittings; i++) {
            int now = partsOf(i);
            if (now > most) {
                most = now;
                best = i;
            }
        }
        return best;
    }

    public int looked(int n, int k, int chance) throws IllegalArgumentException {
        allow(n >= 1 && n <= 40 && k >= 0 && k <= n && chance >= 0 && chance <= 100);
        for (int i = 0; i <= n; i++) {
            put(found, i, i == 0 ? MILLION : 0);
        }
        for (int look = 0; look < n; look++) {
            // from the highest down, so that one fewer is still that of the look before
            for (int i = n; i >= 0; i--) {
                put(found, i, (cell(found, i) * (100 - chance) + cell(found, i - 1) * chance) / 100);
            }
        }
        int together = 0;
        for (int i = k; i <= n; i++) {
            together += cell(found, i);
        }
        return together;
    }

    public int at(int law, int person, int far, int late) throws NoSuchElementException, IllegalArgumentException {
        demand(house.has(LAWS, law) && house.has(PEOPLE, person));
        allow(far >= 0 && far <= 999 && late >= 0 && late <= 2000);
        head.takeLaw(house, law);
        head.takePerson(house, person);
        return head.heldAt(far, late);
    }

    public int falls(int law, int person, int sitting, int what) throws NoSuchElementException {
        demandAll(law, person, sitting);
        demand(what == FAR || what == LATE);
        head.takeLaw(house, law);
        head.takePerson(house, person);
        return what == FAR ? fallsByFar() : fallsByLate(house.told(SITTINGS, sitting, FAR));
    }

    public int spans(int law, int person, int what) throws NoSuchElementException {
        demand(house.has(LAWS, law) && house.has(PEOPLE, person) && what >= 0 && what <= 2);
        sieve.sift(house, sheets);
        if (!hasCounting(person)) {
            return NONE;
        }
        head.takeLaw(house, law);
        head.takePerson(house, person);
        int bestSight = NONE;
        int bestJoint = NONE;
        int least = 0;
        for (int sight = 5; sight <= 95; sight += 10) {
            for (int joint = 5; joint <= 95; joint += 10) {
                head.takeSpans(sight, joint);
                int now = differsTogether(person);
                if (bestSight == NONE || now < least) {
                    least = now;
                    bestSight = sight;
                    bestJoint = joint;
                }
            }
        }
        if (what == 2) {
            return least;
        }
        return what == 0 ? bestSight : bestJoint;
    }

    public int cold(int what) throws NoSuchElementException {
        demand(what >= 0 && what <= 3);
        sieve.sift(house, sheets);
        if (what >= 2) {
            return peopleAgain(what == 3);
        }
        int many = 0;
        for (int i = 0; i < sheets.many; i++) {
            if (wasLooked(i) && (what == 0 || wasFound(i))) {
                many++;
            }
        }
        return many;
    }

    public void image() {
        image.copyFrom(sheets);
        imageKept = true;
    }

    public boolean restore() {
        if (imageKept) {
            sheets.copyFrom(image);
        }
        return imageKept;
    }

    private static void demand(boolean there) {
        if (!there) {
            throw new NoSuchElementException();
        }
    }

    private static void allow(boolean within) {
        if (!within) {
            throw new IllegalArgumentException();
        }
    }

    private void demandAll(int law, int person, int sitting) {
        demand(house.has(LAWS, law) && house.has(PEOPLE, person) && house.has(SITTINGS, sitting));
    }

    private void countRefusal(int which) {
        put(status, which, cell(status, which) + 1);
    }

    private void closeTape() {
        tape.size = 0;
        faultPlace = tape.fault == 0 ? NONE : tape.place;
        if (tape.fault != 0) {
            countRefusal(0);
        }
    }

    /** The column of a SHEET by its number in the face (a LINE, or 20 to the last one that may be asked); or NONE. */
    private int columnOf(int what, int last) {
        if (house.has(LINES, what)) {
            return what;
        }
        return what >= 20 && what <= last ? what - 20 + SHOWN : NONE;
    }

    /** A row's element. Every index comes through here or through put, so that none is used untested. */
    private static int cell(int[] row, int index) {
        return index >= 0 && index < row.length ? row[index] : 0;
    }

    private static void put(int[] row, int index, int number) {
        if (index >= 0 && index < row.length) {
            row[index] = number;
        }
    }

    private static int weightOf(int difference, int span) {
        long square = (long) span * span;
        long both = square + (long) difference * difference;
        return both == 0 ? 0 : (int) (MILLION * square / both);
    }

    private static long cutTowardsLess(long above, long below) {
        return below == 0 ? 0 : Math.floorDiv(above, below);
    }

    private static int apartFrom(int a, int b) {
        return a < b ? b - a : a - b;
    }

    /** Which way a differs from b: -1, 1, or 0 if it doesn't. */
    private static int wayOf(int a, int b) {
        if (a == b) {
            return 0;
        }
        return a < b ? -1 : 1;
    }

    private int drawSheet(int sheet, int spread, int seed) {
        int now = seed;
        for (int column = 0; column <= SLOW; column++) {
            if (column >= SHOWN || house.has(LINES, column)) {
                now = now * 1103515245 + 12345;
                int aside = asideOf(column, spread);
                int draw = drawOf(now, aside + aside + 1) - aside;
                int number = head.foretells(column, house.lineIsSaid(column)) + draw;
                sheets.set(sheet, column, Math.max(Sheets.least(column), Math.min(Sheets.most(column), number)));
            }
        }
        return now;
    }

    private static int drawOf(int seed, int n) {
        return n <= 0 ? 0 : ((seed >> 16) & 32767) % n;
    }

    /** How far to either side a DRAW takes a column. */
    private static int asideOf(int column, int spread) {
        switch (column) {
            case SHOWN:
                return spread;
            case START:
                return 10;
            case SLOW:
                return 5;
            default:
                return 1;
        }
    }

    private void layByFit(int sheet, int laws) {
        long together = 0;
        for (int i = 0; i < laws; i++) {
            put(fits, i, fitOf(sheet, i));
            together += (long) cell(credits, i) * cell(fits, i);
        }
        for (int i = 0; i < laws && together > 0; i++) {
            put(credits, i, (int) ((long) cell(credits, i) * cell(fits, i) * MILLION / together));
        }
    }

    private int fitOf(int sheet, int law) {
        head.take(house, law, sheets.get(sheet, WHO), sheets.get(sheet, WHERE));
        head.settle();
        int fit = MILLION;
        fit = fitted(fit, sheets.get(sheet, SHOWN) - head.drift(), house.told(LAWS, law, SPREAD));
        fit = fitted(fit, sheets.get(sheet, START) - head.foretells(START, false), 10);
        int lines = house.howMany(LINES);
        for (int i = 0; i < lines; i++) {
            fit = fitted(fit, sheets.get(sheet, i) - head.foretells(i, house.lineIsSaid(i)), 2);
        }
        return fit;
    }

    private static int fitted(int fit, int difference, int span) {
        int factor = Math.max(1, weightOf(difference, span) / 1000);
        return (int) Math.max(1, (long) fit * factor / 1000);
    }

    private void foretellShown(int law) {
        for (int i = 0; i < sheets.many; i++) {
            if (sieve.counts(i)) {
                head.take(house, law, sheets.get(i, WHO), sheets.get(i, WHERE));
                head.settle();
                put(shownForetold, i, head.drift());
            }
        }
    }

    private int failsTogether() {
        int together = 0;
        for (int i = 0; i < sheets.many; i++) {
            if (sieve.counts(i)) {
                together += apartFrom(sheets.get(i, SHOWN), cell(shownForetold, i));
            }
        }
        return together;
    }

    private int couplesForetold(int what) {
        int couples = 0;
        for (int i = 0; i < sheets.many; i++) {
            for (int j = i + 1; j < sheets.many; j++) {
                boolean ofOne = sheets.get(i, WHERE) == sheets.get(j, WHERE);
                if (ofOne && sieve.counts(i) && sieve.counts(j) && foretoldWay(i, j) == what) {
                    couples++;
                }
            }
        }
        return couples;
    }

    /** How SHOWN of a couple differ: 1 as FORETOLD, 2 the other way, 3 not; 0 if FORETOLD they don't. */
    private int foretoldWay(int sheet, int other) {
        int foretold = wayOf(cell(shownForetold, sheet), cell(shownForetold, other));
        int shown = wayOf(sheets.get(sheet, SHOWN), sheets.get(other, SHOWN));
        if (foretold == 0) {
            return 0;
        }
        if (shown == 0) {
            return 3;
        }
        return foretold == shown ? 1 : 2;
    }

    private int apartOf(int sheet, int other) {
        int felt = wayOf(sieve.feltOf(sheet), sieve.feltOf(other));
        int shown = wayOf(sheets.get(sheet, SHOWN), sheets.get(other, SHOWN));
        if (felt == 0 || shown == 0) {
            return 2;
        }
        return felt == shown ? 0 : 1;
    }

    private int gather(int sitting, int number) {
        int many = 0;
        for (int i = 0; i < sheets.many; i++) {
            if (sieve.counts(i) && sheets.get(i, WHERE) == sitting) {
                ways.add(number == 0 ? sieve.feltOf(i) : sheets.get(i, SHOWN + number - 1));
                many++;
            }
        }
        return many;
    }

    /** Whether the first is of a TOLD SITTING, the other of a like one that isn't, and both count of one PERSON. */
    private boolean isWishedCouple(int sheet, int other) {
        int imagined = sheets.get(sheet, WHERE);
        int real = sheets.get(other, WHERE);
        return sieve.counts(sheet) && sieve.counts(other)
                && sheets.get(sheet, WHO) == sheets.get(other, WHO)
                && house.told(SITTINGS, imagined, TOLD) == 1 && house.told(SITTINGS, real, TOLD) == 0
                && isLike(imagined, real, FAR) && isLike(imagined, real, LATE)
                && isLike(imagined, real, WAY) && isLike(imagined, real, THING);
    }

    private boolean isLike(int sitting, int other, int what) {
        return house.told(SITTINGS, sitting, what) == house.told(SITTINGS, other, what);
    }

    private int partsOf(int sitting) {
        int laws = house.howMany(LAWS);
        int people = house.howMany(PEOPLE);
        for (int i = 0; i < laws; i++) {
            for (int j = 0; j < people; j++) {
                head.take(house, i, j, sitting);
                head.settle();
                put(shownByLaw, i * 20 + j, head.drift());
            }
        }
        int least = NONE;
        for (int i = 0; i < laws; i++) {
            for (int j = i + 1; j < laws; j++) {
                int now = lawsDiffer(i, j, people);
                least = least == NONE || now < least ? now : least;
            }
        }
        return Math.max(0, least);
    }

    private int lawsDiffer(int law, int other, int people) {
        int together = 0;
        for (int i = 0; i < people; i++) {
            together += apartFrom(cell(shownByLaw, law * 20 + i), cell(shownByLaw, other * 20 + i));
        }
        return together;
    }

    private int fallsByFar() {
        for (int far = 0; far <= 999; far++) {
            if (head.heldAt(far, 0) < HALF) {
                return far;
            }
        }
        return NONE;
    }

    private int fallsByLate(int far) {
        for (int late = 0; late <= 2000; late += 10) {
            if (head.heldAt(far, late) < HALF) {
                return late;
            }
        }
        return NONE;
    }

    private boolean hasCounting(int person) {
        boolean has = false;
        for (int i = 0; i < sheets.many; i++) {
            has = has || isCountingOf(i, person);
        }
        return has;
    }

    private boolean isCountingOf(int sheet, int person) {
        return sieve.counts(sheet) && sheets.get(sheet, WHO) == person;
    }

    private int differsTogether(int person) {
        int together = 0;
        for (int i = 0; i < sheets.many; i++) {
            if (isCountingOf(i, person)) {
                head.takeSitting(house, sheets.get(i, WHERE));
                head.settle();
                together += apartFrom(sheets.get(i, SHOWN), head.drift());
            }
        }
        return together;
    }

    private boolean wasLooked(int sheet) {
        return sieve.counts(sheet) && sheets.get(sheet, COLD) != NOT_LOOKED;
    }

    private boolean wasFound(int sheet) {
        return wasLooked(sheet) && sheets.get(sheet, COLD) <= -2;
    }

    /** PEOPLE who could find it AGAIN, or only those who did. */
    private int peopleAgain(boolean onlyWhoDid) {
        int again = 0;
        int people = house.howMany(PEOPLE);
        for (int i = 0; i < people; i++) {
            int first = lookedSheet(i, 0);
            int second = lookedSheet(i, first + 1);
            if (first < MOST_SHEETS && second < MOST_SHEETS && wasFound(first) && (!onlyWhoDid || wasFound(second))) {
                again++;
            }
        }
        return again;
    }

    /** The first SHEET of a PERSON from one on in which it was looked for, or MOST_SHEETS. */
    private int lookedSheet(int person, int from) {
        for (int i = from; i < sheets.many; i++) {
            if (wasLooked(i) && sheets.get(i, WHO) == person) {
                return i;
            }
        }
        return MOST_SHEETS;
    }

    /** The tape, and the TEXT that is read from it TOKEN by TOKEN, up to its first FAULT. */
    private static final class Tape {
        static final int END = 0;
        static final int WORD = 1;
        static final int NUMBER = 2;
        static final int SIGN = 3;
        static final int NO_TOKEN = 4;

        private final byte[] bytes = new byte[MOST_BYTES];
        int size;
        int fault;
        /** The first byte of the TOKEN that stands here; behind a FAULT, of that which has it. */
        int place;
        int kind;
        /** What a NUMBER tells; above MOST_NUMBER, if it has more digits than there may be. */
        int number;
        private int length;
        private int end;

        void append(int word) {
            for (int shift = 24; shift >= 0; shift -= 8) {
                if (size >= 0 && size < bytes.length) {
                    bytes[size] = (byte) (word >> shift);
                    size++;
                }
            }
        }

        void open(int n) {
            length = n;
            fault = 0;
            end = 0;
            advance();
        }

        void fail(int what) {
            if (fault == 0) {
                fault = what;
            }
        }

        /** To the TOKEN behind this one. Behind a FAULT nothing moves, so that its place stays. */
        void advance() {
            if (fault != 0) {
                return;
            }
            for (int i = end; i < length && (byteAt(i) == 32 || byteAt(i) == 10); i++) {
                end = i + 1;
            }
            place = end;
            int first = byteAt(place);
            if (place >= length) {
                kind = END;
            } else if (first >= 'a' && first <= 'z') {
                kind = WORD;
                passRow('a', 'z');
            } else if (first >= '0' && first <= '9') {
                kind = NUMBER;
                passRow('0', '9');
                tellNumber();
            } else {
                kind = ";()+-*/<=".indexOf((char) first) >= 0 ? SIGN : NO_TOKEN;
                end = place + 1;
            }
        }

        private void passRow(char least, char most) {
            for (int i = place; i < length && byteAt(i) >= least && byteAt(i) <= most; i++) {
                end = i + 1;
            }
        }

        private void tellNumber() {
            number = 0;
            for (int i = place; i < end && i < place + 4; i++) {
                number = number * 10 + byteAt(i) - '0';
            }
            if (end - place > 4) {
                number = MOST_NUMBER + 1;
            }
        }

        private int byteAt(int index) {
            return index >= 0 && index < length && index < bytes.length ? bytes[index] & 255 : 0;
        }

        /** Which of these words (with one blank between them) stands here; or NONE. */
        int wordAmong(String words) {
            int word = 0;
            int here = place;
            boolean same = kind == WORD;
            for (int i = 0; i <= words.length(); i++) {
                if (i < words.length() && words.charAt(i) != ' ') {
                    same = same && here < end && byteAt(here) == words.charAt(i);
                    here++;
                } else {
                    if (same && here == end) {
                        return word;
                    }
                    word++;
                    here = place;
                    same = kind == WORD;
                }
            }
            return NONE;
        }

        boolean isWord(String word) {
            return wordAmong(word) == 0;
        }

        boolean isSign(char sign) {
            return kind == SIGN && byteAt(place) == sign;
        }

        /** Which of these signs stands here; or NONE. */
        int signAmong(String signs) {
            return kind == SIGN ? signs.indexOf((char) byteAt(place)) : NONE;
        }

        int takeAmong(String words) {
            int which = wordAmong(words);
            if (which < 0) {
                fail(1);
            }
            advance();
            return which;
        }

        /** Which of these words stands here, counted from 1; 0, and nothing is taken, if none. */
        int takeEither(String words) {
            int which = fault == 0 ? wordAmong(words) + 1 : 0;
            if (which > 0) {
                advance();
            }
            return which;
        }

        boolean takeIf(String word) {
            boolean stands = fault == 0 && wordAmong(word) == 0;
            if (stands) {
                advance();
            }
            return stands;
        }

        int takeNumber(int least, int most) {
            if (kind != NUMBER) {
                fail(1);
            } else if (number < least || number > most) {
                fail(2);
            }
            int told = number;
            advance();
            return told;
        }

        int takeField(String word, int least, int most) {
            takeAmong(word);
            return takeNumber(least, most);
        }

        int takePerhaps(String word, int least, int most, int without) {
            return takeIf(word) ? takeNumber(least, most) : without;
        }

        int takeSigned(int most) {
            boolean less = takeIf("less");
            int told = takeNumber(0, most);
            return less ? -told : told;
        }

        /** The number of something of which there are so many. */
        int takeOneOf(int many) {
            if (kind == NUMBER && number <= MOST_NUMBER && number >= many) {
                fail(4);
            }
            return takeNumber(0, MOST_NUMBER);
        }

        void takeSemicolon() {
            if (!isSign(';')) {
                fail(1);
            }
            advance();
        }
    }

    /** PEOPLE, SITTINGS, LAWS, LINES and RULES: one row of numbers, in which each kind has its stretch. */
    private static final class House {
        private static final int[] MOST = {20, 20, 6, 12, 4};
        private static final int[] WIDTH = {6, 6, 5, 1, 1};
        private static final int[] FIRST = {0, 120, 240, 270, 282};
        private static final int ALL = 286;

        private final int[] many = new int[5];
        private final int[] numbers = new int[ALL];
        /** The steps of all RULES, one behind another; a RULE's number tells where its own end. */
        private final int[] steps = new int[MOST_BYTES];
        int stepsEnd;

        void clear() {
            for (int i = 0; i < 5; i++) {
                put(many, i, 0);
            }
            stepsEnd = 0;
        }

        void copyFrom(House other) {
            System.arraycopy(other.many, 0, many, 0, 5);
            System.arraycopy(other.numbers, 0, numbers, 0, ALL);
            System.arraycopy(other.steps, 0, steps, 0, MOST_BYTES);
            stepsEnd = other.stepsEnd;
        }

        int howMany(int kind) {
            return cell(many, kind);
        }

        boolean has(int kind, int index) {
            return index >= 0 && index < cell(many, kind);
        }

        boolean isFull(int kind) {
            return cell(many, kind) >= cell(MOST, kind);
        }

        int told(int kind, int index, int what) {
            return cell(numbers, cell(FIRST, kind) + index * cell(WIDTH, kind) + what);
        }

        /** Tells a number of that row of a kind which comes next; close() makes it one of the HOUSE. */
        void tellNext(int kind, int what, int number) {
            put(numbers, cell(FIRST, kind) + cell(many, kind) * cell(WIDTH, kind) + what, number);
        }

        void close(int kind) {
            put(many, kind, cell(many, kind) + 1);
        }

        boolean lineIsSaid(int line) {
            return has(LINES, line) && told(LINES, line, 0) == 1;
        }

        void addStep(int step) {
            put(steps, stepsEnd, step);
            stepsEnd++;
        }

        int step(int index) {
            return cell(steps, index);
        }

        int firstStep(int rule) {
            return rule <= 0 ? 0 : told(RULES, rule - 1, 0);
        }
    }

    /** Reads a TEXT that tells a HOUSE. */
    private static final class HouseReader {
        static void readHouse(Tape tape, House house, RuleReader rules) {
            house.clear();
            for (int i = 0; i < MOST_BYTES && tape.fault == 0 && tape.kind != Tape.END; i++) {
                int kind = tape.wordAmong("person sitting law line off");
                if (kind < 0) {
                    tape.fail(1);
                } else if (house.isFull(kind)) {
                    tape.fail(2);
                } else {
                    tape.advance();
                    if (kind == PEOPLE) {
                        readPerson(tape, house);
                    } else if (kind == SITTINGS) {
                        readSitting(tape, house);
                    } else if (kind == LAWS) {
                        readLaw(tape, house);
                    } else if (kind == LINES) {
                        house.tellNext(LINES, 0, tape.takeAmong("felt said"));
                    } else {
                        rules.readRule(tape, house);
                        house.tellNext(RULES, 0, house.stepsEnd);
                    }
                    tape.takeSemicolon();
                    house.close(kind);
                }
            }
        }

        private static void readPerson(Tape tape, House house) {
            house.tellNext(PEOPLE, SIGHT, tape.takeField("sight", 1, 99));
            house.tellNext(PEOPLE, JOINT, tape.takeField("joint", 1, 99));
            house.tellNext(PEOPLE, TOUCH, tape.takeField("touch", 1, 999));
            house.tellNext(PEOPLE, LEANS, tape.takeField("leans", 0, 1000));
            house.tellNext(PEOPLE, YES, tape.takePerhaps("yes", 0, 100, 0));
            house.tellNext(PEOPLE, WISH, tape.takePerhaps("wish", 0, 100, 0));
        }

        private static void readSitting(Tape tape, House house) {
            house.tellNext(SITTINGS, FAR, tape.takeField("far", 0, 999));
            house.tellNext(SITTINGS, LATE, tape.takePerhaps("late", 0, 2000, 0));
            house.tellNext(SITTINGS, WAY, tape.takeEither("turned aside"));
            house.tellNext(SITTINGS, THING, tape.takeEither("stick top"));
            house.tellNext(SITTINGS, TOLD, tape.takeIf("told") ? 1 : 0);
            house.tellNext(SITTINGS, STROKES, tape.takePerhaps("strokes", 0, 600, 60));
        }

        private static void readLaw(Tape tape, House house) {
            house.tellNext(LAWS, KIND, tape.takeAmong("spans odds wish"));
            house.tellNext(LAWS, TWO, tape.takePerhaps("two", 1, 1000, 300));
            house.tellNext(LAWS, SPREAD, tape.takePerhaps("spread", 1, 99, 20));
            house.tellNext(LAWS, TURN, tape.takePerhaps("turn", 0, 1000, 100));
            house.tellNext(LAWS, SHAPE, tape.takePerhaps("shape", 0, 1000, 300));
        }
    }

    /**
     * Reads the EXPR of a RULE into steps: operands first, then what is done with them. What waits for its second
     * operand is pending; it is done as soon as nothing that binds closer can come.
     */
    private static final class RuleReader {
        static final int FIRST_VALUE = MOST_NUMBER + 1;

        // what is done; a step tells it below 0
        static final int OPEN = 0;
        static final int OR = 1;
        static final int AND = 2;
        static final int NOT = 3;
        static final int LESS = 4;
        static final int EQUAL = 5;
        static final int PLUS = 6;
        static final int MINUS = 7;
        static final int TIMES = 8;
        static final int OVER = 9;

        private static final int[] BINDS = {0, 1, 2, 3, 4, 4, 5, 5, 6, 6};
        private static final int TEST_BINDS = 4;
        private static final int MOST_WITHIN = 6;
        private static final int MOST_NOTS = 6;

        private final int[] pending = new int[128];
        private int pendingEnd;
        private int within;
        private int nots;
        private boolean operandIsDue;
        private boolean notMayStand;

        /** Reads up to the ';' behind the EXPR. */
        void readRule(Tape tape, House house) {
            pendingEnd = 0;
            within = 0;
            nots = 0;
            operandIsDue = true;
            notMayStand = true;
            for (int i = 0; i < MOST_BYTES && tape.fault == 0 && !isAtEnd(tape); i++) {
                if (operandIsDue) {
                    readOperand(tape, house);
                } else {
                    readOperator(tape, house);
                }
                tape.advance();
            }
            doPending(house, 1);
        }

        private boolean isAtEnd(Tape tape) {
            return !operandIsDue && within == 0 && tape.isSign(';');
        }

        private void readOperand(Tape tape, House house) {
            boolean opens = tape.isSign('(');
            if (within >= MOST_WITHIN) {
                tape.fail(opens || tape.kind == Tape.NUMBER || tape.kind == Tape.WORD ? 2 : 1);
            } else if (opens) {
                await(OPEN);
                within++;
                nots = 0;
                notMayStand = true;
            } else if (notMayStand && tape.isWord("not")) {
                if (nots >= MOST_NOTS) {
                    tape.fail(2);
                }
                await(NOT);
                nots++;
            } else {
                readPart(tape, house);
                nots = 0;
                operandIsDue = false;
            }
        }

        private static void readPart(Tape tape, House house) {
            int named = tape.wordAmong("felt said shown start slow far late way thing told strokes who");
            if (tape.kind == Tape.NUMBER) {
                if (tape.number > MOST_NUMBER) {
                    tape.fail(2);
                }
                house.addStep(tape.number);
            } else if (tape.kind == Tape.WORD) {
                if (named < 0) {
                    tape.fail(3);
                }
                house.addStep(FIRST_VALUE + named);
            } else {
                tape.fail(1);
            }
        }

        private void readOperator(Tape tape, House house) {
            if (within > 0 && tape.isSign(')')) {
                doPending(house, 1);
                pendingEnd--;
                within--;
                return;
            }
            int sign = tape.signAmong("<=+-*/");
            int word = tape.wordAmong("or and");
            if (sign < 0 && word < 0) {
                tape.fail(1);
                return;
            }
            int operator = sign >= 0 ? LESS + sign : OR + word;
            int binds = cell(BINDS, operator);
            doPending(house, binds == TEST_BINDS ? TEST_BINDS + 1 : binds);
            if (binds == TEST_BINDS && lastBinds() == TEST_BINDS) {
                tape.fail(1); // a second test beside one
            }
            await(operator);
            operandIsDue = true;
            notMayStand = sign < 0;
        }

        private int lastBinds() {
            return pendingEnd > 0 ? cell(BINDS, cell(pending, pendingEnd - 1)) : 0;
        }

        private void await(int operator) {
            put(pending, pendingEnd, operator);
            pendingEnd++;
        }

        /** What is pending behind the last '(' and binds at least so close becomes steps, the latest first. */
        private void doPending(House house, int binds) {
            for (int i = pendingEnd; i > 0 && lastBinds() >= binds; i--) {
                pendingEnd--;
                house.addStep(-cell(pending, pendingEnd));
            }
        }
    }

    /** SHEETS, a row of columns each. */
    private static final class Sheets {
        private static final int WIDTH = 18;
        private static final int[] LEAST = {-3, -3, -3, -3, -3, -3, -3, -3, -3, -3, -3, -3, -999, 0, 0, -50};
        private static final int[] MOST = {3, 3, 3, 3, 3, 3, 3, 3, 3, 3, 3, 3, 999, 100, 601, 50};

        private final int[] numbers = new int[MOST_SHEETS * WIDTH];
        int many;

        static int least(int column) {
            return cell(LEAST, column);
        }

        static int most(int column) {
            return cell(MOST, column);
        }

        boolean has(int sheet) {
            return sheet >= 0 && sheet < many;
        }

        int get(int sheet, int column) {
            return cell(numbers, sheet * WIDTH + column);
        }

        void set(int sheet, int column, int number) {
            put(numbers, sheet * WIDTH + column, number);
        }

        /** Lays a SHEET on which nothing is told yet. */
        void lay(int sheet, int person, int sitting) {
            for (int i = 0; i < COLD; i++) {
                set(sheet, i, 0);
            }
            set(sheet, COLD, NOT_LOOKED);
            set(sheet, WHO, person);
            set(sheet, WHERE, sitting);
        }

        void copyFrom(Sheets other) {
            System.arraycopy(other.numbers, 0, numbers, 0, MOST_SHEETS * WIDTH);
            many = other.many;
        }
    }

    /** Reads a TEXT of SHEETS. */
    private static final class SheetReader {
        /** Lays them behind those that there are, without making them some of these: how many came. */
        static int readSheets(Tape tape, House house, Sheets sheets) {
            int came = 0;
            for (int i = 0; i < MOST_BYTES && tape.fault == 0 && tape.kind != Tape.END; i++) {
                if (!tape.isWord("sheet")) {
                    tape.fail(1);
                } else if (sheets.many + came >= MOST_SHEETS) {
                    tape.fail(2);
                } else {
                    tape.advance();
                    readSheet(tape, house, sheets, sheets.many + came);
                    came++;
                }
            }
            return came;
        }

        private static void readSheet(Tape tape, House house, Sheets sheets, int sheet) {
            int person = tape.takeOneOf(house.howMany(PEOPLE));
            int sitting = tape.takeOneOf(house.howMany(SITTINGS));
            sheets.lay(sheet, person, sitting);
            readAnswers(tape, house, sheets, sheet);
            if (tape.takeIf("shown")) {
                sheets.set(sheet, SHOWN, tape.takeSigned(Sheets.most(SHOWN)));
            }
            sheets.set(sheet, START, tape.takePerhaps("start", 0, Sheets.most(START), 0));
            sheets.set(sheet, SLOW, tape.takePerhaps("slow", 0, Sheets.most(SLOW), 0));
            if (tape.takeIf("cold")) {
                sheets.set(sheet, COLD, tape.takeSigned(Sheets.most(COLD)));
            }
            tape.takeSemicolon();
        }

        private static void readAnswers(Tape tape, House house, Sheets sheets, int sheet) {
            for (int i = 0; i <= MOST_LINES && tape.fault == 0 && tape.kind == Tape.NUMBER; i++) {
                if (tape.number <= 6 && !house.has(LINES, i)) {
                    tape.fail(4);
                }
                int told = tape.takeNumber(0, 6);
                if (tape.fault == 0) {
                    sheets.set(sheet, i, told - 3);
                }
            }
        }
    }

    /** Which SHEETS are OFF, and by what; what its answers to both sorts of LINES are together. */
    private static final class Sieve {
        private final int[] off = new int[MOST_SHEETS];
        private final int[] felt = new int[MOST_SHEETS];
        private final int[] said = new int[MOST_SHEETS];
        private final int[] saidByPerson = new int[20];
        private final int[] values = new int[12];
        private final int[] stack = new int[64];
        int counting;

        void sift(House house, Sheets sheets) {
            addAnswers(house, sheets);
            counting = 0;
            for (int i = 0; i < sheets.many; i++) {
                tellValues(house, sheets, i);
                int by = firstRuleThatHolds(house);
                if (by == NONE && saysYes(sheets.get(i, WHO))) {
                    by = OFF_BY_YES;
                }
                put(off, i, by);
                counting += by == NONE ? 1 : 0;
            }
        }

        boolean counts(int sheet) {
            return cell(off, sheet) == NONE;
        }

        int offBy(int sheet) {
            return cell(off, sheet);
        }

        int feltOf(int sheet) {
            return cell(felt, sheet);
        }

        int saidOf(int sheet) {
            return cell(said, sheet);
        }

        boolean saysYes(int person) {
            return cell(saidByPerson, person) > 0;
        }

        private void addAnswers(House house, Sheets sheets) {
            for (int i = 0; i < saidByPerson.length; i++) {
                put(saidByPerson, i, 0);
            }
            int lines = house.howMany(LINES);
            for (int i = 0; i < sheets.many; i++) {
                int feltTogether = 0;
                int saidTogether = 0;
                for (int j = 0; j < lines; j++) {
                    int answer = sheets.get(i, j);
                    if (house.lineIsSaid(j)) {
                        saidTogether += answer;
                    } else {
                        feltTogether += answer;
                    }
                }
                put(felt, i, feltTogether);
                put(said, i, saidTogether);
                int who = sheets.get(i, WHO);
                put(saidByPerson, who, cell(saidByPerson, who) + saidTogether);
            }
        }

        /** The VALUES of a SHEET, in the order in which RuleReader names them. */
        private void tellValues(House house, Sheets sheets, int sheet) {
            put(values, 0, feltOf(sheet));
            put(values, 1, saidOf(sheet));
            for (int i = 0; i < 3; i++) {
                put(values, 2 + i, sheets.get(sheet, SHOWN + i));
            }
            for (int i = 0; i < 6; i++) {
                put(values, 5 + i, house.told(SITTINGS, sheets.get(sheet, WHERE), i));
            }
            put(values, 11, sheets.get(sheet, WHO));
        }

        private int firstRuleThatHolds(House house) {
            int rules = house.howMany(RULES);
            for (int i = 0; i < rules; i++) {
                if (worthOf(house, i) != 0) {
                    return i;
                }
            }
            return NONE;
        }

        private int worthOf(House house, int rule) {
            int top = 0;
            int end = house.firstStep(rule + 1);
            for (int i = house.firstStep(rule); i < end; i++) {
                int step = house.step(i);
                if (step >= 0) {
                    boolean isValue = step >= RuleReader.FIRST_VALUE;
                    put(stack, top, isValue ? cell(values, step - RuleReader.FIRST_VALUE) : step);
                    top++;
                } else if (step == -RuleReader.NOT) {
                    put(stack, top - 1, cell(stack, top - 1) == 0 ? 1 : 0);
                } else {
                    top--;
                    put(stack, top - 1, done(-step, cell(stack, top - 1), cell(stack, top)));
                }
            }
            return cell(stack, 0);
        }

        private static int done(int operator, int a, int b) {
            switch (operator) {
                case RuleReader.OR:
                    return a != 0 || b != 0 ? 1 : 0;
                case RuleReader.AND:
                    return a != 0 && b != 0 ? 1 : 0;
                case RuleReader.LESS:
                    return a < b ? 1 : 0;
                case RuleReader.EQUAL:
                    return a == b ? 1 : 0;
                case RuleReader.PLUS:
                    return a + b;
                case RuleReader.MINUS:
                    return a - b;
                case RuleReader.TIMES:
                    return a * b;
                default:
                    return b == 0 ? 0 : a / b;
            }
        }
    }

    /** A head of a PERSON that sits in a SITTING and joins by a LAW. */
    private static final class Head {
        private int sight;
        private int joint;
        private int touch;
        private int leans;
        private int yes;
        private int wish;
        private int far;
        private int late;
        private int way;
        private int thing;
        private int told;
        private int strokes;
        private int kind;
        private int two;
        private int turn;
        private int shape;
        /** HELD, as settle() found it. */
        int held;

        void take(House house, int law, int person, int sitting) {
            takeLaw(house, law);
            takePerson(house, person);
            takeSitting(house, sitting);
        }

        void takeLaw(House house, int law) {
            kind = house.told(LAWS, law, KIND);
            two = house.told(LAWS, law, TWO);
            turn = house.told(LAWS, law, TURN);
            shape = house.told(LAWS, law, SHAPE);
        }

        void takePerson(House house, int person) {
            takeSpans(house.told(PEOPLE, person, SIGHT), house.told(PEOPLE, person, JOINT));
            touch = house.told(PEOPLE, person, TOUCH);
            leans = house.told(PEOPLE, person, LEANS);
            yes = house.told(PEOPLE, person, YES);
            wish = house.told(PEOPLE, person, WISH);
        }

        void takeSpans(int newSight, int newJoint) {
            sight = newSight;
            joint = newJoint;
        }

        void takeSitting(House house, int sitting) {
            far = house.told(SITTINGS, sitting, FAR);
            late = house.told(SITTINGS, sitting, LATE);
            way = house.told(SITTINGS, sitting, WAY);
            thing = house.told(SITTINGS, sitting, THING);
            told = house.told(SITTINGS, sitting, TOLD);
            strokes = house.told(SITTINGS, sitting, STROKES);
        }

        int heldAt(int newFar, int newLate) {
            far = newFar;
            late = newLate;
            way = 0;
            thing = 0;
            told = 0;
            strokes = 60;
            settle();
            return held;
        }

        /** Finds HELD, on which most of what is FORETOLD rests. */
        void settle() {
            if (kind == KIND_SPANS) {
                held = MILLION;
            } else {
                held = kind == KIND_WISH ? 10000 * wish : oneBehind(strokes);
            }
        }

        private int pulled(int one, int weight) {
            long first = (long) one * weight;
            long both = first + (long) (MILLION - one) * 1000 * two;
            return both == 0 ? 0 : (int) (first * MILLION / both);
        }

        private int oneAtFirst() {
            int one = pulled(1000 * leans, weightOf(far, sight + joint));
            if (way == 1) {
                one = pulled(one, 1000 * turn);
            } else if (way == 2) {
                one = pulled(one, 1000 * ((1000 + turn) / 2));
            }
            if (thing == 1) {
                one = pulled(one, 1000 * shape);
            } else if (thing == 2) {
                one = pulled(one, 1000 * (shape / 2));
            }
            return one;
        }

        int oneBehind(int some) {
            int one = oneAtFirst();
            int weight = weightOf(late, touch);
            for (int i = 0; i < some && told == 0; i++) {
                int now = pulled(one, weight);
                if (now == one) {
                    return one; // all later strokes leave it, too
                }
                one = now;
            }
            return one;
        }

        int comes() {
            int one = oneAtFirst();
            int weight = weightOf(late, touch);
            for (int i = 0; i <= strokes; i++) {
                if (one >= HALF) {
                    return i;
                }
                int now = told == 0 ? pulled(one, weight) : one;
                if (now == one) {
                    return NONE; // all later strokes leave it, too
                }
                one = now;
            }
            return NONE;
        }

        int drift() {
            if (kind == KIND_WISH) {
                return far * wish / 100;
            }
            long both = (long) joint * joint + (long) sight * sight;
            return both == 0 ? 0 : (int) ((long) far * joint * joint * held / (both * MILLION));
        }

        /** What is FORETOLD of a column of a SHEET, by HELD as settled. */
        int foretells(int column, boolean isSaid) {
            switch (column) {
                case SHOWN:
                    return drift();
                case START:
                    return 100 * held / MILLION;
                case SLOW:
                    return slow();
                default:
                    return isSaid ? 6 * yes / 100 - 3 : felt();
            }
        }

        private int felt() {
            return told == 1 ? 6 * wish / 100 - 3 : 6 * held / MILLION - 3;
        }

        private int slow() {
            if (kind == KIND_SPANS) {
                return 0;
            }
            if (kind == KIND_WISH) {
                return strokes - strokes * wish / 100;
            }
            int first = comes();
            return first == NONE ? strokes + 1 : first;
        }
    }

    /** All ways to choose some of the numbers of two SITTINGS, at most ten of each. */
    private static final class Ways {
        static final int MOST_OF_ONE = 10;

        private final int[] numbers = new int[2 * MOST_OF_ONE];
        private int many;

        void clear() {
            many = 0;
        }

        void add(int number) {
            put(numbers, many, number);
            many++;
        }

        int sumOfFirst(int some) {
            return sumOf(numbers, 0, some);
        }

        /** How many ways to choose some have a sum as great as that of the first so many, or greater. */
        int asGreat(int some) {
            int need = sumOfFirst(some);
            sortGreatestFirst();
            return waysFrom(numbers, many, 0, some, need);
        }

        static int choose(int all, int some) {
            int choices = 1;
            for (int i = 1; i <= some; i++) {
                choices = choices * (all - some + i) / i;
            }
            return choices;
        }

        /** As the greatest stand first, whole branches are told by their greatest and their least sum. */
        private static int waysFrom(int[] numbers, int many, int from, int some, int need) {
            if (some < 0 || some > many - from || sumOf(numbers, from, from + some) < need) {
                return 0;
            }
            if (sumOf(numbers, many - some, many) >= need) {
                return choose(many - from, some);
            }
            return waysFrom(numbers, many, from + 1, some - 1, need - cell(numbers, from))
                    + waysFrom(numbers, many, from + 1, some, need);
        }

        private static int sumOf(int[] numbers, int from, int to) {
            int together = 0;
            for (int i = from; i < to; i++) {
                together += cell(numbers, i);
            }
            return together;
        }

        private void sortGreatestFirst() {
            for (int i = 1; i < many; i++) {
                for (int j = i; j > 0 && cell(numbers, j - 1) < cell(numbers, j); j--) {
                    int number = cell(numbers, j);
                    put(numbers, j, cell(numbers, j - 1));
                    put(numbers, j - 1, number);
                }
            }
        }
    }
}
