import java.util.Arrays;

/** Roads of liquorice that goers suck as they go: laws, scripts, days, a book of goings, and an image to go back to. */
public final class LiquoriceRoads {
    public static final int NONE = -1;

    /** Answered where NONE is a true answer, or asks for something else. */
    private static final int NEITHER = -2;

    private static final int TOWNS = 8;
    private static final int ROADS = 16;
    private static final int GOERS = 6;
    private static final int TEXTS = 4;
    private static final int SAIDS = 8;
    private static final int BYTES = 300;
    private static final int MOST_LONG = 9;
    private static final int MOST_THICK = 99;
    private static final int MOST_MOUTH = 9;
    private static final int MOST_COIL = 999;
    private static final int MOST_COILED = 99;
    private static final int MOST_DAY = 9999;
    private static final int MOST_DAYS = 60;
    private static final int MOST_SEED = 9999;
    private static final int MOST_YEARS = 40;
    private static final int MOST_CHANCES = 3;

    private final Told told = new Told();
    private final State now = new State();
    private final Steps steps = new Steps();
    private final Told imageTold = new Told();
    private final int[] imageState = new int[State.ROW];
    private final Steps imageSteps = new Steps();
    private final Text[] texts = new Text[TEXTS];
    private final Tape tape = new Tape();
    private final Reader reader = new Reader(tape);
    private final Laws laws = new Laws(told, now, texts);
    private final Deeds deeds = new Deeds(told, now, steps, laws);
    private final Net net = new Net(told, now);
    private final Mouths mouths = new Mouths(told, now, laws);

    public LiquoriceRoads() {
        for (int text = 0; text < TEXTS; text++) {
            texts[text] = new Text();
        }
        now.keep(imageState, 0, told);
    }

    public int road(int a, int b, int length, int thick) {
        boolean fits = isTown(a) && isTown(b) && a != b && within(length, 1, MOST_LONG) && within(thick, 1, MOST_THICK);
        return fits ? deeds.tellRoad(a, b, length, thick) : NONE;
    }

    public int goer(int town, int mouth) {
        return isTown(town) && within(mouth, 1, MOST_MOUTH) ? deeds.tellGoer(town, mouth) : NONE;
    }

    public int feed(int a, int b, int c, int d, int e) {
        if (tape.length + Tape.FED > BYTES) {
            return NONE;
        }
        tape.take(a);
        tape.take(b);
        tape.take(c);
        tape.take(d);
        tape.take(e);
        return tape.length;
    }

    public int end(int n) {
        if (!within(n, 0, tape.length)) {
            return NONE;
        }
        tape.length = n;
        return n;
    }

    public int text() {
        if (told.texts >= TEXTS) {
            return NONE;
        }
        boolean sound = reader.takes(texts[told.texts]);
        tape.length = 0;
        if (!sound) {
            return NONE;
        }
        told.texts++;
        return told.texts - 1;
    }

    public int fault(int what) {
        switch (what) {
            case 0: return reader.fault;
            case 1: return reader.place;
            default: return NONE;
        }
    }

    public boolean by(int text) {
        boolean fits = text == NONE || isText(text);
        if (fits) {
            told.ruling = text;
        }
        return fits;
    }

    public int go(int goer, int road) {
        return deeds.stepGo(goer, road) ? now.place[goer] : NONE;
    }

    public boolean relay(int road) {
        return deeds.stepLay(road);
    }

    public boolean coil(int miles) {
        return within(miles, 1, MOST_COILED) && deeds.stepCoil(miles);
    }

    public int day(int n) {
        if (!within(n, 1, MOST_DAYS) || now.day + n > MOST_DAY) {
            return NONE;
        }
        int goings = 0;
        for (int i = 0; i < n; i++) {
            steps.push(now, told);
            goings += deeds.passDay();
        }
        return goings;
    }

    public int played(int text) {
        if (!isText(text)) {
            return NEITHER;
        }
        Text script = texts[text];
        for (int clause = 0; clause < script.clauses; clause++) {
            if (!deeds.plays(script, clause)) {
                return clause;
            }
        }
        return NONE;
    }

    public int years(int seed, int n) {
        if (!within(seed, 0, MOST_SEED) || !within(n, 1, MOST_YEARS)) {
            return NONE;
        }
        steps.push(now, told);
        now.sow(seed);
        for (int i = 0; i < n; i++) {
            deeds.drawDeed();
        }
        return now.day;
    }

    public int undo() {
        return steps.pop(now) ? steps.count : NONE;
    }

    public int of(int road, int what) {
        if (!told.hasRoad(road)) {
            return NONE;
        }
        switch (what) {
            case 0: return told.from[road];
            case 1: return told.to[road];
            case 2: return told.length[road];
            case 3: return now.thick[road];
            case 4: return told.first[road];
            case 5: return laws.swelling(road);
            default: return NONE;
        }
    }

    public int ofGoer(int goer, int what) {
        if (!told.hasGoer(goer)) {
            return NONE;
        }
        switch (what) {
            case 0: return now.place[goer];
            case 1: return told.mouth[goer];
            case 2: return now.went[goer];
            case 3: return deeds.openRoads(goer);
            default: return NONE;
        }
    }

    public int sucks(int goer, int road) {
        return told.hasGoer(goer) && told.hasRoad(road) ? laws.sucking(told.ruling, goer, road) : NONE;
    }

    public int is(int what) {
        switch (what) {
            case 0: return now.day;
            case 1: return now.x;
            case 2: return now.rain;
            case 3: return now.coil;
            default: return NEITHER;
        }
    }

    public int book(int i, int what) {
        if (i == NONE) {
            return now.goings;
        }
        if (!within(i, 0, now.goings - 1)) {
            return NEITHER;
        }
        switch (what) {
            case 0: return now.dayOfGoing(i);
            case 1: return now.goerOfGoing(i);
            case 2: return now.roadOfGoing(i);
            case 3: return now.suckedInGoing(i);
            default: return NEITHER;
        }
    }

    public int foretold(int n, int what, int which) {
        boolean ofRoad = what == 0 && told.hasRoad(which);
        boolean aboutGoer = (what == 1 || what == 2) && told.hasGoer(which);
        if (!within(n, 1, MOST_DAYS) || !ofRoad && !aboutGoer) {
            return NONE;
        }
        return deeds.foresee(n, what, which);
    }

    public int miles(int a, int b, int thick) {
        return isTown(a) && isTown(b) && within(thick, 0, MOST_THICK) ? net.milesBetween(a, b, thick) : NONE;
    }

    public int way(int a, int b, int thick, int i) {
        boolean fits = isTown(a) && isTown(b) && within(thick, 0, MOST_THICK) && within(i, 0, TOWNS);
        return fits ? net.roadOfWay(a, b, thick, i) : NEITHER;
    }

    public int widest(int a, int b) {
        return areUnlikeTowns(a, b) ? net.widthBetween(a, b) : NONE;
    }

    public int flow(int a, int b) {
        return areUnlikeTowns(a, b) ? net.thickAround(net.thinnestSet(a, b)) : NONE;
    }

    public int cut(int a, int b) {
        return areUnlikeTowns(a, b) ? net.thinnestSet(a, b) : NONE;
    }

    public int tree(boolean roads) {
        int kept = net.treeRoads();
        return roads ? kept : net.lengthOf(kept);
    }

    public int bridges() {
        return net.bridgeRoads();
    }

    public int carter(int town) {
        return isTown(town) ? net.carterMiles(town) : NONE;
    }

    public int centre() {
        return net.centreTown();
    }

    public int pieces() {
        return net.pieceCount();
    }

    public int times(int goer, int road) {
        return told.hasGoer(goer) && told.hasRoad(road) ? mouths.toAndFro(goer, road) : NONE;
    }

    public int crowd(int road, int i) {
        if (!told.hasRoad(road)) {
            return NEITHER;
        }
        int most = mouths.gather(road);
        if (i == NONE) {
            return most;
        }
        return within(i, 0, most - 1) ? mouths.largest[i] : NEITHER;
    }

    public long who(int road) {
        boolean fits = told.hasRoad(road) && imageTold.hasRoad(road);
        return fits ? mouths.waysToSuck(road, State.thickIn(imageState, road)) : NONE;
    }

    public int watch(boolean many) {
        int towns = net.watchTowns();
        return many ? Integer.bitCount(towns) : towns;
    }

    public int colours() {
        return net.colourCount();
    }

    public long likely(int town, int n, int to, boolean low) {
        return isTown(town) && isTown(to) && within(n, 0, MOST_CHANCES) ? net.chance(town, n, to, low) : NONE;
    }

    public int ring(int town) {
        return isTown(town) ? net.ringMiles(town) : NONE;
    }

    public int stranded() {
        int found = 0;
        for (int goer = 0; goer < told.goers; goer++) {
            if (deeds.openRoads(goer) == 0) {
                found |= 1 << goer;
            }
        }
        return found;
    }

    public int said(int goer, int road, int sucks) {
        if (goer == NONE) {
            told.saids = 0;
            return 0;
        }
        boolean fits = told.hasGoer(goer) && told.hasRoad(road) && within(sucks, 0, MOST_THICK);
        if (!fits || told.saids >= SAIDS) {
            return NEITHER;
        }
        told.keepSaid(goer, road, sucks);
        return told.saids;
    }

    public int whose() {
        int found = 0;
        for (int text = 0; text < told.texts; text++) {
            if (laws.agrees(text)) {
                found |= 1 << text;
            }
        }
        return found;
    }

    public int thinnest() {
        int found = NONE;
        for (int road = 0; road < told.roads; road++) {
            if (found == NONE || now.thick[road] < now.thick[found]) {
                found = road;
            }
        }
        return found;
    }

    public int busiest() {
        int found = NONE;
        int most = 0;
        for (int goer = 0; goer < told.goers; goer++) {
            if (now.went[goer] > most) {
                found = goer;
                most = now.went[goer];
            }
        }
        return found;
    }

    public int lonely() {
        int lone = 0;
        for (int town = 0; town < TOWNS; town++) {
            if (net.roadsAt(town) == 0) {
                lone |= 1 << town;
            }
        }
        return lone;
    }

    public int ledger(int goer) {
        if (goer != NONE && !told.hasGoer(goer)) {
            return NEITHER;
        }
        int sum = 0;
        for (int i = 0; i < now.goings; i++) {
            if (goer == NONE || now.goerOfGoing(i) == goer) {
                sum += now.suckedInGoing(i);
            }
        }
        return sum;
    }

    public int image() {
        imageTold.copyFrom(told);
        now.keep(imageState, 0, told);
        imageSteps.copyFrom(steps);
        return now.day;
    }

    public int back() {
        told.copyFrom(imageTold);
        now.restore(imageState, 0);
        steps.copyFrom(imageSteps);
        return now.day;
    }

    public int about(int what) {
        switch (what) {
            case 0: return told.roads;
            case 1: return told.goers;
            case 2: return told.texts;
            case 3: return told.ruling;
            case 4: return steps.count;
            case 5: return told.saids;
            case 6: return tape.length;
            default: return NEITHER;
        }
    }

    private static boolean within(int number, int low, int high) {
        return number >= low && number <= high;
    }

    private static boolean isTown(int town) {
        return within(town, 0, TOWNS - 1);
    }

    private static boolean areUnlikeTowns(int a, int b) {
        return isTown(a) && isTown(b) && a != b;
    }

    private boolean isText(int text) {
        return within(text, 0, told.texts - 1);
    }

    /** Kinds of TOKENS; the same numbers are the codes of the laws. */
    private static final class Kind {
        /** In the order of the kinds: the NAMES first, those of both laws, of sucks, of swells. */
        static final String WORDS = "day rain way long thick mouth who went first sucks swells road to goer go by relay coil common of roads if then else end or and not ";

        static final int DAY = 0;
        static final int RAIN = 1;
        static final int WAY = 2;
        static final int LONG = 3;
        static final int THICK = 4;
        static final int MOUTH = 5;
        static final int WHO = 6;
        static final int WENT = 7;
        static final int FIRST = 8;
        static final int SUCKS = 9;
        static final int SWELLS = 10;
        static final int ROAD = 11;
        static final int TO = 12;
        static final int GOER = 13;
        static final int GO = 14;
        static final int BY = 15;
        static final int RELAY = 16;
        static final int COIL = 17;
        static final int COMMON = 18;
        static final int OF = 19;
        static final int ROADS = 20;
        static final int IF = 21;
        static final int THEN = 22;
        static final int ELSE = 23;
        static final int END = 24;
        static final int OR = 25;
        static final int AND = 26;
        static final int NOT = 27;

        /** In the order of the kinds. */
        static final String SIGNS = "<>=#+-*/();";

        static final int LESS = 28;
        static final int MORE = 29;
        static final int EQUAL = 30;
        static final int UNLIKE = 31;
        static final int PLUS = 32;
        static final int MINUS = 33;
        static final int TIMES = 34;
        static final int OVER = 35;
        static final int LEFT = 36;
        static final int RIGHT = 37;
        static final int CLOSE = 38;
        static final int AT_MOST = 39;
        static final int AT_LEAST = 40;

        static final int NUMBER = 41;
        /** No TOKEN of the language, or a word that stands nowhere. */
        static final int STRANGE = 42;
        static final int FINISH = 43;
        /** No TOKEN: the code of - of one ONE. */
        static final int NEGATE = 44;

        private Kind() {
        }

        static boolean isName(int kind) {
            return within(kind, DAY, FIRST);
        }

        static boolean isNameOf(int kind, int law) {
            return within(kind, DAY, THICK) || (law == SUCKS ? within(kind, MOUTH, WENT) : kind == FIRST);
        }

        static boolean isAsking(int kind) {
            return within(kind, LESS, UNLIKE) || within(kind, AT_MOST, AT_LEAST);
        }
    }

    /** What was told and no STEP changes. */
    private static final class Told {
        final int[] from = new int[LiquoriceRoads.ROADS];
        final int[] to = new int[LiquoriceRoads.ROADS];
        final int[] length = new int[LiquoriceRoads.ROADS];
        final int[] first = new int[LiquoriceRoads.ROADS];
        final int[] mouth = new int[GOERS];
        final int[] saidGoer = new int[SAIDS];
        final int[] saidRoad = new int[SAIDS];
        final int[] saidSucks = new int[SAIDS];
        int roads = 0;
        int goers = 0;
        int texts = 0;
        int saids = 0;
        int ruling = NONE;

        boolean hasRoad(int road) {
            return road >= 0 && road < roads;
        }

        boolean hasGoer(int goer) {
            return goer >= 0 && goer < goers;
        }

        boolean touches(int road, int town) {
            return from[road] == town || to[road] == town;
        }

        int across(int road, int town) {
            return from[road] == town ? to[road] : from[road];
        }

        void keepSaid(int goer, int road, int sucks) {
            if (saids < SAIDS) {
                saidGoer[saids] = goer;
                saidRoad[saids] = road;
                saidSucks[saids] = sucks;
                saids++;
            }
        }

        void copyFrom(Told other) {
            System.arraycopy(other.from, 0, from, 0, from.length);
            System.arraycopy(other.to, 0, to, 0, to.length);
            System.arraycopy(other.length, 0, length, 0, length.length);
            System.arraycopy(other.first, 0, first, 0, first.length);
            System.arraycopy(other.mouth, 0, mouth, 0, mouth.length);
            System.arraycopy(other.saidGoer, 0, saidGoer, 0, saidGoer.length);
            System.arraycopy(other.saidRoad, 0, saidRoad, 0, saidRoad.length);
            System.arraycopy(other.saidSucks, 0, saidSucks, 0, saidSucks.length);
            roads = other.roads;
            goers = other.goers;
            texts = other.texts;
            saids = other.saids;
            ruling = other.ruling;
        }
    }

    /** What STEPS change. It goes into a row of numbers, so that keeping many makes no objects. */
    private static final class State {
        static final int BOOK = 30;

        private static final int PLACE_AT = LiquoriceRoads.ROADS;
        private static final int WENT_AT = PLACE_AT + GOERS;
        private static final int BOOK_AT = WENT_AT + GOERS;
        private static final int COIL_AT = BOOK_AT + BOOK;
        private static final int RAIN_AT = COIL_AT + 1;
        private static final int DAY_AT = COIL_AT + 2;
        private static final int X_AT = COIL_AT + 3;
        private static final int GOINGS_AT = COIL_AT + 4;
        private static final int ROADS_AT = COIL_AT + 5;
        private static final int GOERS_AT = COIL_AT + 6;
        static final int ROW = COIL_AT + 7;

        private static final int MOST_WENT = 9999;
        private static final int FIRST_COIL = 20;
        private static final int FIRST_X = 283;

        final int[] thick = new int[LiquoriceRoads.ROADS];
        final int[] place = new int[GOERS];
        final int[] went = new int[GOERS];
        /** The eldest first; one number holds a going: DAY, GOER (3 bits), ROAD (4), sucked (7). */
        private final int[] book = new int[BOOK];
        int goings = 0;
        int coil = FIRST_COIL;
        int rain = 0;
        int day = 0;
        int x = FIRST_X;

        void sow(int seed) {
            x = seed * 2 + FIRST_X;
        }

        int draw(int among) {
            int drawn = among > 0 ? x % among : 0;
            x = (x * 547 + 421) % 30727;
            return drawn;
        }

        void walk(int goer, int road, int town, int sucked) {
            thick[road] -= sucked;
            place[goer] = town;
            went[goer] = Math.min(MOST_WENT, went[goer] + 1);
            if (goings >= BOOK) {
                System.arraycopy(book, 1, book, 0, BOOK - 1);
                goings = BOOK - 1;
            }
            book[goings] = day << 14 | goer << 11 | road << 7 | sucked;
            goings++;
        }

        int dayOfGoing(int i) {
            return book[i] >> 14;
        }

        int goerOfGoing(int i) {
            return book[i] >> 11 & 7;
        }

        int roadOfGoing(int i) {
            return book[i] >> 7 & 15;
        }

        int suckedInGoing(int i) {
            return book[i] & 127;
        }

        void keep(int[] rows, int at, Told told) {
            if (at < 0 || at > rows.length - ROW) {
                return;
            }
            System.arraycopy(thick, 0, rows, at, thick.length);
            System.arraycopy(place, 0, rows, at + PLACE_AT, place.length);
            System.arraycopy(went, 0, rows, at + WENT_AT, went.length);
            System.arraycopy(book, 0, rows, at + BOOK_AT, book.length);
            rows[at + COIL_AT] = coil;
            rows[at + RAIN_AT] = rain;
            rows[at + DAY_AT] = day;
            rows[at + X_AT] = x;
            rows[at + GOINGS_AT] = goings;
            rows[at + ROADS_AT] = told.roads;
            rows[at + GOERS_AT] = told.goers;
        }

        /** ROADS and GOERS told since are left: all STEPS since are taken back by then, so they are as told. */
        void restore(int[] rows, int at) {
            if (at < 0 || at > rows.length - ROW) {
                return;
            }
            int roads = rows[at + ROADS_AT];
            int goers = rows[at + GOERS_AT];
            System.arraycopy(rows, at, thick, 0, roads);
            System.arraycopy(rows, at + PLACE_AT, place, 0, goers);
            System.arraycopy(rows, at + WENT_AT, went, 0, goers);
            System.arraycopy(rows, at + BOOK_AT, book, 0, book.length);
            coil = rows[at + COIL_AT];
            rain = rows[at + RAIN_AT];
            day = rows[at + DAY_AT];
            x = rows[at + X_AT];
            goings = rows[at + GOINGS_AT];
        }

        static int thickIn(int[] row, int road) {
            return row[road];
        }
    }

    /** The latest STEPS: what was ahead of each, in a ring of rows. */
    private static final class Steps {
        private static final int KEPT = 30;

        private final int[] rows = new int[KEPT * State.ROW];
        private int next = 0;
        int count = 0;

        void push(State now, Told told) {
            now.keep(rows, next * State.ROW, told);
            next = (next + 1) % KEPT;
            count = Math.min(KEPT, count + 1);
        }

        boolean pop(State now) {
            if (count == 0) {
                return false;
            }
            next = (next + KEPT - 1) % KEPT;
            count--;
            now.restore(rows, next * State.ROW);
            return true;
        }

        void copyFrom(Steps other) {
            System.arraycopy(other.rows, 0, rows, 0, rows.length);
            next = other.next;
            count = other.count;
        }
    }

    /** A TEXT that was read: its laws as codes for a stack, its CLAUSES as kinds and NUMBERS. */
    private static final class Text {
        static final int CLAUSES = 24;
        private static final int NUMBERS = 4;

        /** A TOKEN makes one code at most, so there are no more than bytes. */
        final int[] codes = new int[BYTES];
        final int[] operands = new int[BYTES];
        int size = 0;
        int sucksFrom = NONE;
        int sucksTo = NONE;
        int swellsFrom = NONE;
        int swellsTo = NONE;
        private final int[] kinds = new int[CLAUSES];
        private final int[] numbers = new int[CLAUSES * NUMBERS];
        int clauses = 0;

        void clear() {
            size = 0;
            sucksFrom = NONE;
            sucksTo = NONE;
            swellsFrom = NONE;
            swellsTo = NONE;
            clauses = 0;
        }

        int emit(int code, int operand) {
            if (size >= BYTES) {
                return NONE;
            }
            codes[size] = code;
            operands[size] = operand;
            size++;
            return size - 1;
        }

        void setOperand(int at, int operand) {
            if (within(at, 0, size - 1)) {
                operands[at] = operand;
            }
        }

        void open(int kind) {
            if (clauses < CLAUSES) {
                kinds[clauses] = kind;
                clauses++;
            }
        }

        void setNumber(int slot, int number) {
            if (clauses > 0 && within(slot, 0, NUMBERS - 1)) {
                numbers[(clauses - 1) * NUMBERS + slot] = number;
            }
        }

        int kindOf(int clause) {
            return within(clause, 0, clauses - 1) ? kinds[clause] : NONE;
        }

        int numberOf(int clause, int slot) {
            boolean fits = within(clause, 0, clauses - 1) && within(slot, 0, NUMBERS - 1);
            return fits ? numbers[clause * NUMBERS + slot] : NONE;
        }

        boolean hasLaw(int kind) {
            return kind == Kind.SUCKS && sucksFrom != NONE || kind == Kind.SWELLS && swellsFrom != NONE;
        }

        void setLaw(int kind, int from, int to) {
            if (kind == Kind.SUCKS) {
                sucksFrom = from;
                sucksTo = to;
            } else {
                swellsFrom = from;
                swellsTo = to;
            }
        }
    }

    /** The bytes that come in, and the TOKENS they are cut into. */
    private static final class Tape {
        static final int FED = 20;
        static final int MOST_NUMBER = 9999;

        private final int[] bytes = new int[BYTES];
        int length = 0;
        private final int[] kinds = new int[BYTES + 1];
        private final int[] starts = new int[BYTES + 1];
        private final int[] numbers = new int[BYTES + 1];
        private int count = 0;

        void take(int four) {
            for (int shift = 24; shift >= 0 && length < BYTES; shift -= 8) {
                bytes[length] = four >> shift & 255;
                length++;
            }
        }

        int kindAt(int i) {
            return i >= 0 && i < count ? kinds[i] : Kind.FINISH;
        }

        int startAt(int i) {
            return i >= 0 && i < count ? starts[i] : length;
        }

        int numberAt(int i) {
            return i >= 0 && i < count ? numbers[i] : NONE;
        }

        void cutUp() {
            count = 0;
            int at = 0;
            while (at < length) {
                boolean blank = bytes[at] == ' ' || bytes[at] == '\n';
                at = blank ? at + 1 : Math.max(at + 1, cutFrom(at));
            }
            put(Kind.FINISH, length, 0);
        }

        private int cutFrom(int at) {
            int past = at + 1;
            if (isLetter(bytes[at])) {
                while (past < length && isLetter(bytes[past])) {
                    past++;
                }
                put(wordFrom(at, past), at, 0);
            } else if (isDigit(bytes[at])) {
                while (past < length && isDigit(bytes[past])) {
                    past++;
                }
                put(Kind.NUMBER, at, numberFrom(at, past));
            } else if (past < length && bytes[past] == '=' && (bytes[at] == '<' || bytes[at] == '>')) {
                put(bytes[at] == '<' ? Kind.AT_MOST : Kind.AT_LEAST, at, 0);
                past++;
            } else {
                int sign = Kind.SIGNS.indexOf((char) bytes[at]);
                put(sign < 0 ? Kind.STRANGE : Kind.LESS + sign, at, 0);
            }
            return past;
        }

        private void put(int kind, int start, int number) {
            if (count < kinds.length) {
                kinds[count] = kind;
                starts[count] = start;
                numbers[count] = number;
                count++;
            }
        }

        private int wordFrom(int at, int past) {
            int word = 0;
            int alike = 0;
            for (int i = 0; i < Kind.WORDS.length(); i++) {
                char letter = Kind.WORDS.charAt(i);
                if (letter != ' ') {
                    boolean same = alike >= 0 && at + alike < past && bytes[at + alike] == letter;
                    alike = same ? alike + 1 : NONE;
                } else if (alike == past - at) {
                    return word;
                } else {
                    word++;
                    alike = 0;
                }
            }
            return Kind.STRANGE;
        }

        /** Held just above the greatest NUMBER: many digits would run over. */
        private int numberFrom(int at, int past) {
            int number = 0;
            for (int i = at; i < past; i++) {
                number = Math.min(MOST_NUMBER + 1, number * 10 + bytes[i] - '0');
            }
            return number;
        }

        private static boolean isLetter(int sign) {
            return within(sign, 'a', 'z') || within(sign, 'A', 'Z');
        }

        private static boolean isDigit(int sign) {
            return within(sign, '0', '9');
        }
    }

    /** Reads the tape into a TEXT; each part answers whether it is without a FAULT, and leaves what it read behind. */
    private static final class Reader {
        private static final int DEEPEST = 8;
        private static final int CANT_STAND = 1;
        private static final int NO_SUCH_NUMBER = 2;
        private static final int TOO_DEEP = 3;
        private static final int SECOND_LAW = 4;
        private static final int NAME_OF_OTHERS = 5;
        private static final int TOO_MANY = 6;

        private final Tape tape;
        private Text text = null;
        private int at = 0;
        private int law = NONE;
        int fault = NONE;
        int place = NONE;

        Reader(Tape tape) {
            this.tape = tape;
        }

        boolean takes(Text into) {
            text = into;
            text.clear();
            tape.cutUp();
            at = 0;
            fault = 0;
            place = NONE;
            boolean sound = true;
            for (int n = 0; n <= Text.CLAUSES && sound && kind() != Kind.FINISH; n++) {
                sound = takesClause();
            }
            return sound;
        }

        private int kind() {
            return tape.kindAt(at);
        }

        private boolean fails(int why) {
            fault = why;
            place = tape.startAt(at);
            return false;
        }

        private boolean takesKind(int due) {
            if (kind() != due) {
                return fails(CANT_STAND);
            }
            at++;
            return true;
        }

        private boolean takesNumber(int slot, int low, int high) {
            if (kind() != Kind.NUMBER) {
                return fails(CANT_STAND);
            }
            int number = tape.numberAt(at);
            if (!within(number, low, high)) {
                return fails(NO_SUCH_NUMBER);
            }
            text.setNumber(slot, number);
            at++;
            return true;
        }

        private boolean takesClause() {
            int first = kind();
            if (!startsClause(first)) {
                return fails(CANT_STAND);
            }
            if (text.hasLaw(first)) {
                return fails(SECOND_LAW);
            }
            if (text.clauses >= Text.CLAUSES) {
                return fails(TOO_MANY);
            }
            at++;
            text.open(first);
            boolean sound = first == Kind.SUCKS || first == Kind.SWELLS ? takesLaw(first) : takesDeed(first);
            return sound && takesKind(Kind.CLOSE);
        }

        private static boolean startsClause(int kind) {
            switch (kind) {
                case Kind.SUCKS:
                case Kind.SWELLS:
                case Kind.ROAD:
                case Kind.GOER:
                case Kind.GO:
                case Kind.RELAY:
                case Kind.COIL:
                case Kind.DAY:
                    return true;
                default:
                    return false;
            }
        }

        private boolean takesDeed(int first) {
            switch (first) {
                case Kind.ROAD:
                    return takesNumber(0, 0, TOWNS - 1) && takesKind(Kind.TO) && takesNumber(1, 0, TOWNS - 1)
                        && takesKind(Kind.LONG) && takesNumber(2, 1, MOST_LONG)
                        && takesKind(Kind.THICK) && takesNumber(3, 1, MOST_THICK);
                case Kind.GOER:
                    return takesNumber(0, 0, TOWNS - 1) && takesKind(Kind.MOUTH) && takesNumber(1, 1, MOST_MOUTH);
                case Kind.GO:
                    return takesNumber(0, 0, LiquoriceRoads.ROADS - 1) && takesKind(Kind.BY) && takesNumber(1, 0, GOERS - 1);
                case Kind.RELAY:
                    return takesNumber(0, 0, LiquoriceRoads.ROADS - 1);
                case Kind.COIL:
                    return takesNumber(0, 1, MOST_COILED);
                default:
                    return takesNumber(0, 1, MOST_DAYS);
            }
        }

        private boolean takesLaw(int first) {
            law = first;
            int from = text.size;
            boolean sound = takesSum(0);
            text.setLaw(first, from, text.size);
            return sound;
        }

        private boolean takesSum(int open) {
            boolean sound = takesProduct(open);
            for (int n = 0; n < BYTES && sound && (kind() == Kind.PLUS || kind() == Kind.MINUS); n++) {
                int sign = kind();
                at++;
                sound = takesProduct(open);
                text.emit(sign, 0);
            }
            return sound;
        }

        private boolean takesProduct(int open) {
            boolean sound = takesOne(open);
            for (int n = 0; n < BYTES && sound && (kind() == Kind.TIMES || kind() == Kind.OVER); n++) {
                int sign = kind();
                at++;
                sound = takesOne(open);
                text.emit(sign, 0);
            }
            return sound;
        }

        private boolean takesOne(int open) {
            int first = kind();
            if (first == Kind.NUMBER) {
                return takesNumberOfLaw();
            }
            if (Kind.isName(first)) {
                return takesName(first);
            }
            if (!opensOne(first)) {
                return fails(CANT_STAND);
            }
            if (open >= DEEPEST) {
                return fails(TOO_DEEP);
            }
            at++;
            switch (first) {
                case Kind.LEFT:
                    return takesSum(open + 1) && takesKind(Kind.RIGHT);
                case Kind.MINUS:
                    return takesOne(open + 1) && emits(Kind.NEGATE);
                case Kind.COMMON:
                    return takesOne(open + 1) && takesKind(Kind.OF) && takesOne(open + 1) && emits(Kind.COMMON);
                case Kind.ROADS:
                    return takesOne(open + 1) && emits(Kind.ROADS);
                default:
                    return takesChoice(open + 1);
            }
        }

        private static boolean opensOne(int kind) {
            return kind == Kind.LEFT || kind == Kind.MINUS || kind == Kind.COMMON || kind == Kind.ROADS || kind == Kind.IF;
        }

        private boolean emits(int code) {
            text.emit(code, 0);
            return true;
        }

        private boolean takesNumberOfLaw() {
            int number = tape.numberAt(at);
            if (number > Tape.MOST_NUMBER) {
                return fails(NO_SUCH_NUMBER);
            }
            text.emit(Kind.NUMBER, number);
            at++;
            return true;
        }

        private boolean takesName(int name) {
            if (!Kind.isNameOf(name, law)) {
                return fails(NAME_OF_OTHERS);
            }
            at++;
            return emits(name);
        }

        /** Behind THEN and ELSE the place of the last code that is leapt over is put in when it is known. */
        private boolean takesChoice(int open) {
            if (!takesEither(open) || !takesKind(Kind.THEN)) {
                return false;
            }
            int then = text.emit(Kind.THEN, 0);
            if (!takesSum(open) || !takesKind(Kind.ELSE)) {
                return false;
            }
            int otherwise = text.emit(Kind.ELSE, 0);
            text.setOperand(then, otherwise);
            if (!takesSum(open) || !takesKind(Kind.END)) {
                return false;
            }
            text.setOperand(otherwise, text.size - 1);
            return true;
        }

        private boolean takesEither(int open) {
            boolean sound = takesBoth(open);
            for (int n = 0; n < BYTES && sound && kind() == Kind.OR; n++) {
                at++;
                sound = takesBoth(open);
                text.emit(Kind.OR, 0);
            }
            return sound;
        }

        private boolean takesBoth(int open) {
            boolean sound = takesAsk(open);
            for (int n = 0; n < BYTES && sound && kind() == Kind.AND; n++) {
                at++;
                sound = takesAsk(open);
                text.emit(Kind.AND, 0);
            }
            return sound;
        }

        private boolean takesAsk(int open) {
            if (kind() == Kind.NOT) {
                if (open >= DEEPEST) {
                    return fails(TOO_DEEP);
                }
                at++;
                return takesAsk(open + 1) && emits(Kind.NOT);
            }
            if (!takesSum(open)) {
                return false;
            }
            int asking = kind();
            if (!Kind.isAsking(asking)) {
                return fails(CANT_STAND);
            }
            at++;
            return takesSum(open) && emits(asking);
        }
    }

    /** What THE TEXT, or any other, rules: its codes worked on a stack. */
    private static final class Laws {
        private static final int MOST_SWELLS = 9;
        private static final int MOST_VALUE = 1000000;
        /** A SUM has at most five values waiting at each of nine depths. */
        private static final int STACK = 64;

        private final Told told;
        private final State now;
        private final Text[] texts;
        private final int[] stack = new int[STACK];

        Laws(Told told, State now, Text[] texts) {
            this.told = told;
            this.now = now;
            this.texts = texts;
        }

        int sucking(int text, int goer, int road) {
            Text law = lawOf(text);
            if (law == null || law.sucksFrom == NONE) {
                return 1 + told.mouth[goer] / 3;
            }
            return Math.max(0, Math.min(MOST_THICK, value(law, law.sucksFrom, law.sucksTo, goer, road)));
        }

        int swelling(int road) {
            Text law = lawOf(told.ruling);
            if (law == null || law.swellsFrom == NONE) {
                return now.rain;
            }
            return Math.max(0, Math.min(MOST_SWELLS, value(law, law.swellsFrom, law.swellsTo, NONE, road)));
        }

        boolean agrees(int text) {
            for (int i = 0; i < told.saids; i++) {
                if (sucking(text, told.saidGoer[i], told.saidRoad[i]) != told.saidSucks[i]) {
                    return false;
                }
            }
            return true;
        }

        private Text lawOf(int text) {
            return within(text, 0, texts.length - 1) ? texts[text] : null;
        }

        private int value(Text law, int from, int to, int goer, int road) {
            int top = 0;
            for (int at = from; at < to; at++) {
                int code = law.codes[at];
                int operand = law.operands[at];
                if (code == Kind.ELSE) {
                    at = Math.max(at, operand);
                } else if (code == Kind.NUMBER || code <= Kind.FIRST) {
                    if (top < STACK) {
                        stack[top] = code == Kind.NUMBER ? operand : named(code, goer, road);
                        top++;
                    }
                } else if (code == Kind.THEN) {
                    top = Math.max(0, top - 1);
                    at = stack[top] == 0 ? Math.max(at, operand) : at;
                } else if (code == Kind.NEGATE || code == Kind.NOT || code == Kind.ROADS) {
                    int last = Math.max(0, top - 1);
                    stack[last] = alone(code, stack[last]);
                } else if (top > 1) {
                    top--;
                    stack[top - 1] = joined(code, stack[top - 1], stack[top]);
                }
            }
            return stack[0];
        }

        private int named(int name, int goer, int road) {
            switch (name) {
                case Kind.DAY: return now.day;
                case Kind.RAIN: return now.rain;
                case Kind.WAY: return road;
                case Kind.LONG: return told.length[road];
                case Kind.THICK: return now.thick[road];
                case Kind.FIRST: return told.first[road];
                default: break;
            }
            if (!told.hasGoer(goer)) {
                return 0;
            }
            switch (name) {
                case Kind.MOUTH: return told.mouth[goer];
                case Kind.WENT: return now.went[goer];
                default: return goer;
            }
        }

        private int alone(int code, int value) {
            switch (code) {
                case Kind.NEGATE: return -value;
                case Kind.NOT: return 1 - value;
                default: return told.hasRoad(value) ? now.thick[value] : 0;
            }
        }

        private static int joined(int code, int a, int b) {
            switch (code) {
                case Kind.PLUS: return (int) Math.max(-MOST_VALUE, Math.min(MOST_VALUE, (long) a + b));
                case Kind.MINUS: return (int) Math.max(-MOST_VALUE, Math.min(MOST_VALUE, (long) a - b));
                case Kind.TIMES: return (int) Math.max(-MOST_VALUE, Math.min(MOST_VALUE, (long) a * b));
                case Kind.OVER: return b == 0 ? 0 : a / b;
                case Kind.COMMON: return (int) commonPart(Math.abs(a), Math.abs(b));
                case Kind.OR: return a | b;
                case Kind.AND: return a & b;
                case Kind.LESS: return a < b ? 1 : 0;
                case Kind.AT_MOST: return a <= b ? 1 : 0;
                case Kind.MORE: return a > b ? 1 : 0;
                case Kind.AT_LEAST: return a >= b ? 1 : 0;
                case Kind.EQUAL: return a == b ? 1 : 0;
                default: return a != b ? 1 : 0;
            }
        }

        /** The greatest number that parts both. Two rounds halve what is left: a long has less than 128 in it. */
        static long commonPart(long a, long b) {
            long found = a;
            long left = b;
            for (int round = 0; round < 130 && left > 0; round++) {
                long rest = found % left;
                found = left;
                left = rest;
            }
            return found;
        }
    }

    /** What is done: by hand and by scripts as STEPS, within days and years without. */
    private static final class Deeds {
        private final Told told;
        private final State now;
        private final Steps steps;
        private final Laws laws;
        private final int[] kept = new int[State.ROW];

        Deeds(Told told, State now, Steps steps, Laws laws) {
            this.told = told;
            this.now = now;
            this.steps = steps;
            this.laws = laws;
        }

        int tellRoad(int a, int b, int length, int thick) {
            int road = told.roads;
            if (road >= LiquoriceRoads.ROADS || a == b) {
                return NONE;
            }
            told.from[road] = a;
            told.to[road] = b;
            told.length[road] = length;
            told.first[road] = thick;
            now.thick[road] = thick;
            told.roads++;
            return road;
        }

        int tellGoer(int town, int mouth) {
            int goer = told.goers;
            if (goer >= GOERS) {
                return NONE;
            }
            told.mouth[goer] = mouth;
            now.place[goer] = town;
            now.went[goer] = 0;
            told.goers++;
            return goer;
        }

        int openRoads(int goer) {
            int open = 0;
            for (int road = 0; road < told.roads; road++) {
                if (told.touches(road, now.place[goer]) && laws.sucking(told.ruling, goer, road) <= now.thick[road]) {
                    open |= 1 << road;
                }
            }
            return open;
        }

        /** How much is sucked if the GOER goes; NONE, if it can't. */
        private int toll(int goer, int road) {
            if (!told.hasGoer(goer) || !told.hasRoad(road) || !told.touches(road, now.place[goer])) {
                return NONE;
            }
            int much = laws.sucking(told.ruling, goer, road);
            return much <= now.thick[road] ? much : NONE;
        }

        private boolean canLay(int road) {
            return told.hasRoad(road) && now.thick[road] < told.first[road] && now.coil >= told.length[road];
        }

        private void lay(int road) {
            now.thick[road] = told.first[road];
            now.coil -= told.length[road];
        }

        boolean stepGo(int goer, int road) {
            int much = toll(goer, road);
            if (much == NONE) {
                return false;
            }
            steps.push(now, told);
            now.walk(goer, road, told.across(road, now.place[goer]), much);
            return true;
        }

        boolean stepLay(int road) {
            if (!canLay(road)) {
                return false;
            }
            steps.push(now, told);
            lay(road);
            return true;
        }

        boolean stepCoil(int miles) {
            if (now.coil + miles > MOST_COIL) {
                return false;
            }
            steps.push(now, told);
            now.coil += miles;
            return true;
        }

        int passDay() {
            now.rain = now.draw(10) < 3 ? 1 : 0;
            int goings = 0;
            for (int goer = 0; goer < told.goers; goer++) {
                int open = openRoads(goer);
                if (open != 0) {
                    int road = bitAt(open, now.draw(Integer.bitCount(open)));
                    int much = laws.sucking(told.ruling, goer, road);
                    now.walk(goer, road, told.across(road, now.place[goer]), much);
                    goings++;
                }
            }
            for (int road = 0; road < told.roads; road++) {
                now.thick[road] = Math.min(told.first[road], now.thick[road] + laws.swelling(road));
            }
            now.day++;
            return goings;
        }

        /** The place of the bit that has so many bits set below it. */
        private static int bitAt(int bits, int below) {
            int left = bits;
            for (int i = 0; i < below; i++) {
                left &= left - 1;
            }
            return Integer.numberOfTrailingZeros(left);
        }

        /** One of YEARS' deeds, if it can be. */
        void drawDeed() {
            int x = now.x;
            now.draw(1);
            int goer = told.goers > 0 ? x % told.goers : NONE;
            int road = told.roads > 0 ? x / 6 % told.roads : NONE;
            switch (x % 6) {
                case 0:
                case 1:
                    int much = toll(goer, road);
                    if (much != NONE) {
                        now.walk(goer, road, told.across(road, now.place[goer]), much);
                    }
                    break;
                case 2:
                    if (canLay(road)) {
                        lay(road);
                    }
                    break;
                case 3:
                    int miles = 1 + x % 9;
                    now.coil += now.coil + miles <= MOST_COIL ? miles : 0;
                    break;
                default:
                    if (now.day < MOST_DAY) {
                        passDay();
                    }
                    break;
            }
        }

        boolean plays(Text script, int clause) {
            int first = script.numberOf(clause, 0);
            int second = script.numberOf(clause, 1);
            switch (script.kindOf(clause)) {
                case Kind.ROAD:
                    return tellRoad(first, second, script.numberOf(clause, 2), script.numberOf(clause, 3)) != NONE;
                case Kind.GOER:
                    return tellGoer(first, second) != NONE;
                case Kind.GO:
                    return stepGo(second, first);
                case Kind.RELAY:
                    return stepLay(first);
                case Kind.COIL:
                    return stepCoil(first);
                case Kind.DAY:
                    int passing = Math.min(first, MOST_DAY - now.day);
                    for (int i = 0; i < passing; i++) {
                        steps.push(now, told);
                        passDay();
                    }
                    return passing == first;
                default:
                    return true;
            }
        }

        int foresee(int n, int what, int which) {
            now.keep(kept, 0, told);
            int passing = Math.min(n, MOST_DAY - now.day);
            for (int i = 0; i < passing; i++) {
                passDay();
            }
            int seen = what == 0 ? now.thick[which] : what == 1 ? now.place[which] : now.went[which];
            now.restore(kept, 0);
            return seen;
        }
    }

    /** Ways, flows, trees and rings over the ROADS as THICK as they are now. */
    private static final class Net {
        private static final int FAR = 1000000;
        private static final int SETS = 256;

        private final Told told;
        private final State now;
        private final int[] miles = new int[TOWNS];
        private final int[] pairMiles = new int[TOWNS * TOWNS];
        private final int[] widths = new int[TOWNS];
        private final int[] groups = new int[TOWNS];
        private final int[] near = new int[TOWNS];
        private final int[] least = new int[SETS];
        private long[] chances = new long[TOWNS];
        private long[] nextChances = new long[TOWNS];

        Net(Told told, State now) {
            this.told = told;
            this.now = now;
        }

        private boolean holds(int road) {
            return now.thick[road] > 0;
        }

        int roadsAt(int town) {
            int count = 0;
            for (int road = 0; road < told.roads; road++) {
                if (holds(road) && told.touches(road, town)) {
                    count++;
                }
            }
            return count;
        }

        /** Fills miles from a TOWN over ROADS as THICK as that, or more; one can be left out. */
        private void spread(int town, int thick, int without) {
            Arrays.fill(miles, FAR);
            miles[town] = 0;
            for (int round = 1; round < TOWNS; round++) {
                for (int road = 0; road < told.roads; road++) {
                    if (road != without && now.thick[road] >= thick) {
                        int a = told.from[road];
                        int b = told.to[road];
                        miles[a] = Math.min(miles[a], miles[b] + told.length[road]);
                        miles[b] = Math.min(miles[b], miles[a] + told.length[road]);
                    }
                }
            }
        }

        int milesBetween(int a, int b, int thick) {
            spread(a, thick, NONE);
            return miles[b] < FAR ? miles[b] : NONE;
        }

        int roadOfWay(int a, int b, int thick, int i) {
            spread(b, thick, NONE);
            int town = a;
            for (int n = 0; n < TOWNS; n++) {
                int road = roadTowards(town, thick);
                if (road == NONE) {
                    return NEITHER;
                }
                if (n == i) {
                    return road;
                }
                town = told.across(road, town);
            }
            return NEITHER;
        }

        /** The lowest ROAD that brings one nearer by its whole LENGTH. */
        private int roadTowards(int town, int thick) {
            for (int road = 0; road < told.roads; road++) {
                if (now.thick[road] >= thick && told.touches(road, town)) {
                    int there = miles[told.across(road, town)];
                    if (there < FAR && there + told.length[road] == miles[town]) {
                        return road;
                    }
                }
            }
            return NONE;
        }

        int widthBetween(int a, int b) {
            Arrays.fill(widths, NONE);
            widths[a] = MOST_THICK;
            for (int round = 1; round < TOWNS; round++) {
                for (int road = 0; road < told.roads; road++) {
                    int one = told.from[road];
                    int other = told.to[road];
                    widths[one] = Math.max(widths[one], Math.min(widths[other], now.thick[road]));
                    widths[other] = Math.max(widths[other], Math.min(widths[one], now.thick[road]));
                }
            }
            return widths[b];
        }

        int thickAround(int set) {
            int sum = 0;
            for (int road = 0; road < told.roads; road++) {
                if ((set >> told.from[road] & 1) != (set >> told.to[road] & 1)) {
                    sum += now.thick[road];
                }
            }
            return sum;
        }

        /** As much can flow as the thinnest set between the two lets out; the lowest is looked at first, and stays of like ones. */
        int thinnestSet(int a, int b) {
            int found = 1 << a;
            int thinnest = thickAround(found);
            for (int set = 0; set < SETS; set++) {
                if ((set >> a & 1) == 1 && (set >> b & 1) == 0) {
                    int thick = thickAround(set);
                    if (thick < thinnest) {
                        found = set;
                        thinnest = thick;
                    }
                }
            }
            return found;
        }

        int treeRoads() {
            for (int town = 0; town < TOWNS; town++) {
                groups[town] = town;
            }
            int kept = 0;
            for (int length = 1; length <= MOST_LONG; length++) {
                for (int road = 0; road < told.roads; road++) {
                    if (told.length[road] == length && holds(road) && joins(road)) {
                        kept |= 1 << road;
                    }
                }
            }
            return kept;
        }

        /** Makes one group of the two that a ROAD lies between; false, if they are one already. */
        private boolean joins(int road) {
            int kept = groups[told.from[road]];
            int lost = groups[told.to[road]];
            for (int town = 0; town < TOWNS; town++) {
                if (groups[town] == lost) {
                    groups[town] = kept;
                }
            }
            return kept != lost;
        }

        int lengthOf(int roads) {
            int sum = 0;
            for (int road = 0; road < told.roads; road++) {
                if ((roads >> road & 1) == 1) {
                    sum += told.length[road];
                }
            }
            return sum;
        }

        int bridgeRoads() {
            int found = 0;
            for (int road = 0; road < told.roads; road++) {
                if (holds(road)) {
                    spread(told.from[road], 1, road);
                    if (miles[told.to[road]] >= FAR) {
                        found |= 1 << road;
                    }
                }
            }
            return found;
        }

        /** Each ROAD of a tree makes one piece of two. */
        int pieceCount() {
            int towns = 0;
            for (int town = 0; town < TOWNS; town++) {
                if (roadsAt(town) > 0) {
                    towns++;
                }
            }
            return towns - Integer.bitCount(treeRoads());
        }

        /** All ROADS once, and again the ways that pair off the TOWNS of odd many ROADS with the fewest miles. */
        int carterMiles(int town) {
            if (roadsAt(town) == 0 || pieceCount() != 1) {
                return NONE;
            }
            int sum = 0;
            for (int road = 0; road < told.roads; road++) {
                sum += holds(road) ? told.length[road] : 0;
            }
            int odd = 0;
            for (int at = 0; at < TOWNS; at++) {
                odd |= (roadsAt(at) & 1) << at;
            }
            return sum + pairingMiles(odd);
        }

        private int pairingMiles(int odd) {
            for (int town = 0; town < TOWNS; town++) {
                spread(town, 1, NONE);
                System.arraycopy(miles, 0, pairMiles, town * TOWNS, TOWNS);
            }
            least[0] = 0;
            for (int set = 1; set <= odd; set++) {
                int low = Integer.numberOfTrailingZeros(set);
                least[set] = FAR;
                for (int town = low + 1; town < TOWNS; town++) {
                    if ((set >> town & 1) == 1) {
                        int rest = set ^ 1 << low ^ 1 << town;
                        least[set] = Math.min(least[set], least[rest] + pairMiles[low * TOWNS + town]);
                    }
                }
            }
            return least[odd];
        }

        int centreTown() {
            int found = NONE;
            int fewest = FAR;
            for (int town = 0; town < TOWNS; town++) {
                if (roadsAt(town) > 0) {
                    spread(town, 1, NONE);
                    int most = mostMiles();
                    if (most < fewest) {
                        fewest = most;
                        found = town;
                    }
                }
            }
            return found;
        }

        private int mostMiles() {
            int most = 0;
            for (int town = 0; town < TOWNS; town++) {
                if (miles[town] < FAR) {
                    most = Math.max(most, miles[town]);
                }
            }
            return most;
        }

        int ringMiles(int town) {
            int fewest = FAR;
            for (int road = 0; road < told.roads; road++) {
                if (holds(road) && told.touches(road, town)) {
                    spread(told.across(road, town), 1, road);
                    fewest = Math.min(fewest, miles[town] + told.length[road]);
                }
            }
            return fewest < FAR ? fewest : NONE;
        }

        int watchTowns() {
            int found = SETS - 1;
            for (int set = SETS - 1; set >= 0; set--) {
                if (Integer.bitCount(set) <= Integer.bitCount(found) && watchesAll(set)) {
                    found = set;
                }
            }
            return found;
        }

        private boolean watchesAll(int set) {
            for (int road = 0; road < told.roads; road++) {
                if (holds(road) && (set >> told.from[road] & 1) == 0 && (set >> told.to[road] & 1) == 0) {
                    return false;
                }
            }
            return true;
        }

        /** For each set of TOWNS the fewest colours: one for a part without ROADS that has its lowest TOWN, and the rest. */
        int colourCount() {
            findNear();
            least[0] = 0;
            for (int set = 1; set < SETS; set++) {
                int low = set & -set;
                least[set] = FAR;
                for (int part = set; part > 0; part = part - 1 & set) {
                    if ((part & low) != 0 && isRoadless(part)) {
                        least[set] = Math.min(least[set], 1 + least[set ^ part]);
                    }
                }
            }
            return least[SETS - 1];
        }

        private void findNear() {
            Arrays.fill(near, 0);
            for (int road = 0; road < told.roads; road++) {
                if (holds(road)) {
                    near[told.from[road]] |= 1 << told.to[road];
                    near[told.to[road]] |= 1 << told.from[road];
                }
            }
        }

        private boolean isRoadless(int set) {
            for (int town = 0; town < TOWNS; town++) {
                if ((set >> town & 1) == 1 && (near[town] & set) != 0) {
                    return false;
                }
            }
            return true;
        }

        /** All chances are parts of one whole, which is so many ROADS' common multiple at each going. */
        long chance(int town, int n, int to, boolean low) {
            long multiple = 1;
            for (int at = 0; at < TOWNS; at++) {
                int roads = Math.max(1, roadsAt(at));
                multiple = multiple / Math.max(1, Laws.commonPart(multiple, roads)) * roads;
            }
            Arrays.fill(chances, 0);
            chances[town] = 1;
            long whole = 1;
            for (int i = 0; i < n; i++) {
                wander(multiple);
                whole *= multiple;
            }
            long part = Math.max(1, Laws.commonPart(chances[to], whole));
            return (low ? whole : chances[to]) / part;
        }

        private void wander(long multiple) {
            Arrays.fill(nextChances, 0);
            for (int town = 0; town < TOWNS; town++) {
                int count = roadsAt(town);
                if (count == 0) {
                    nextChances[town] += chances[town] * multiple;
                } else {
                    long share = chances[town] * (multiple / count);
                    for (int road = 0; road < told.roads; road++) {
                        if (holds(road) && told.touches(road, town)) {
                            nextChances[told.across(road, town)] += share;
                        }
                    }
                }
            }
            long[] spent = chances;
            chances = nextChances;
            nextChances = spent;
        }
    }

    /** What many mouths do at one ROAD; its THICK is changed to look ahead, and put back. */
    private static final class Mouths {
        private static final int MOST_TIMES = 99;
        private static final int MOST_GOINGS = 3;
        private static final int THICKS = MOST_THICK + 1;

        private final Told told;
        private final State now;
        private final Laws laws;
        /** What each GOER sucks at each THICK, once it was asked: a crowd asks the same many times. */
        private final int[] known = new int[GOERS * THICKS];
        private final int[] order = new int[GOERS];
        private final int[] largest = new int[GOERS];
        private int most = 0;
        private final long[] ways = new long[THICKS];

        Mouths(Told told, State now, Laws laws) {
            this.told = told;
            this.now = now;
            this.laws = laws;
        }

        int toAndFro(int goer, int road) {
            int thick = now.thick[road];
            int count = 0;
            int much = laws.sucking(told.ruling, goer, road);
            while (count < MOST_TIMES && much <= now.thick[road]) {
                count++;
                now.thick[road] -= much;
                much = laws.sucking(told.ruling, goer, road);
            }
            now.thick[road] = thick;
            return count;
        }

        int gather(int road) {
            Arrays.fill(known, NONE);
            most = 0;
            follow(road, 0, 0);
            return most;
        }

        /** Lower GOERS are tried first, so the first of the longest orders is the lowest one. */
        private void follow(int road, int count, int gone) {
            if (count > most) {
                most = count;
                System.arraycopy(order, 0, largest, 0, count);
            }
            for (int goer = 0; goer < told.goers && count < GOERS && most < told.goers; goer++) {
                if ((gone >> goer & 1) == 0 && suckedAt(goer, road) <= now.thick[road]) {
                    int much = suckedAt(goer, road);
                    order[count] = goer;
                    now.thick[road] -= much;
                    follow(road, count + 1, gone | 1 << goer);
                    now.thick[road] += much;
                }
            }
        }

        private int suckedAt(int goer, int road) {
            int at = goer * THICKS + now.thick[road];
            if (known[at] == NONE) {
                known[at] = laws.sucking(told.ruling, goer, road);
            }
            return known[at];
        }

        long waysToSuck(int road, int thickThen) {
            int missing = thickThen - now.thick[road];
            if (missing < 0) {
                return 0;
            }
            int thick = now.thick[road];
            now.thick[road] = thickThen;
            Arrays.fill(ways, 0);
            ways[0] = 1;
            for (int goer = 0; goer < told.goers; goer++) {
                addGoer(laws.sucking(told.ruling, goer, road), missing);
            }
            now.thick[road] = thick;
            return ways[missing];
        }

        /** From the greatest sum down, so that those below are still without this GOER. */
        private void addGoer(int much, int missing) {
            for (int sum = missing; sum >= 0; sum--) {
                long found = 0;
                for (int times = 0; times <= MOST_GOINGS && times * much <= sum; times++) {
                    found += ways[sum - times * much];
                }
                ways[sum] = found;
            }
        }
    }
}
