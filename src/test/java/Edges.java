/** What the tests of the document's sentences share: each says which promise and sentence it is about, then asks. */
abstract class Edges {
    static final int NONE = LiquoriceRoads.NONE;
    static final int LOW = Integer.MIN_VALUE;
    static final int HIGH = Integer.MAX_VALUE;
    /** No argument takes these, though some would look right if they were cut to fewer bits. */
    static final int[] FAR = {LOW, LOW + 1, -65536, -65535, -256, -255, -3, 65536, 65537, HIGH - 1, HIGH};

    private static final Due DUE = new Due();
    private static Document document;
    private static String sentence;
    private static String label;

    static void begin(Document of) {
        document = of;
    }

    static void says(int promise, String words) {
        label = promise + " '" + words + "': ";
        sentence = document.find(promise, words);
        DUE.same(label + "is in the document", sentence != null, true);
    }

    static void due(String what, long got, long want) {
        DUE.same(label + what, got, want);
        if (sentence != null) {
            document.count(sentence);
        }
    }

    static void due(String what, boolean got, boolean want) {
        due(what, got ? 1 : 0, want ? 1 : 0);
    }

    /** For calls that must leave all as it is: want is what state(x) was ahead of them. */
    static void unchanged(LiquoriceRoads x, String want) {
        String got = state(x);
        due(got.equals(want) ? "nothing is done" : "nothing is done, but " + want + " is " + got, got.equals(want), true);
    }

    static void close() {
        document.sentences().forEach((words, asked) -> DUE.same("a test of " + words, asked > 0, true));
        DUE.close();
    }

    static String state(LiquoriceRoads x) {
        StringBuilder s = new StringBuilder();
        for (int what = 0; what < 7; what++) {
            s.append(x.about(what)).append(' ').append(x.is(what % 4)).append(' ');
        }
        int roads = x.about(0);
        for (int road = 0; road < roads; road++) {
            s.append(x.of(road, 3)).append(' ');
        }
        int goers = x.about(1);
        for (int goer = 0; goer < goers; goer++) {
            s.append(x.ofGoer(goer, 0)).append(' ').append(x.ofGoer(goer, 2)).append(' ');
        }
        int goings = x.book(NONE, 0);
        s.append(goings).append(' ').append(x.ledger(NONE)).append(' ').append(x.book(0, 3)).append(' ').append(x.book(goings - 1, 2));
        return s.append(' ').append(x.fault(0)).append(' ').append(x.fault(1)).append(' ').append(x.whose()).toString();
    }

    /** A new object that has just one TEXT, which rules. */
    static LiquoriceRoads ruled(String text) {
        LiquoriceRoads x = new LiquoriceRoads();
        due("text of " + text, Tapes.text(x, text), 0);
        due("by " + text, x.by(0), true);
        return x;
    }

    /** Another TEXT, which rules from now on. */
    static void rule(LiquoriceRoads x, String text) {
        int number = Tapes.text(x, text);
        due("text of " + text, number >= 0 && x.by(number), true);
    }

    /** A ROAD of 9 between 0 and 1, 2 miles, and a GOER in 0 that sucks 2. */
    static LiquoriceRoads small() {
        LiquoriceRoads x = new LiquoriceRoads();
        x.road(0, 1, 2, 9);
        x.goer(0, 3);
        return x;
    }

    /** A ring 0-1-2 (4, 3, 9 miles), a tail 2-3, and 4-5 aside. */
    static LiquoriceRoads shire() {
        LiquoriceRoads x = new LiquoriceRoads();
        x.road(0, 1, 4, 10);
        x.road(1, 2, 3, 8);
        x.road(0, 2, 9, 5);
        x.road(2, 3, 2, 6);
        x.road(4, 5, 1, 1);
        return x;
    }

    /** Leaves so much of a ROAD, by a GOER told for it; no TEXT rules then, and one has been told. */
    static void suckedTo(LiquoriceRoads x, int road, int left) {
        rule(x, "sucks thick-" + left + ";");
        x.go(x.goer(x.of(road, 0), 1), road);
        x.by(NONE);
        due("sucked to " + left, x.of(road, 3), left);
    }

    /** One GOER that sucks nothing went over one ROAD on each of so many DAYS. */
    static LiquoriceRoads aged(int days) {
        LiquoriceRoads x = ruled("sucks 0;");
        x.road(0, 1, 1, 9);
        x.goer(0, 1);
        for (int left = days; left > 0; left -= 60) {
            x.day(Math.min(60, left));
        }
        due("aged", x.is(0), days);
        return x;
    }

    /** COIL is so much, from 20 on. */
    static void coilTo(LiquoriceRoads x, int much) {
        for (int n = 0; n < 11 && x.is(3) < much; n++) {
            x.coil(Math.min(99, much - x.is(3)));
        }
        due("coil to " + much, x.is(3), much);
    }

    static int drawn(int x) {
        return (x * 547 + 421) % 30727;
    }

    /** A TEXT read by a new object has this FAULT at this place; what 0: none. */
    static void fault(String text, int what, int place) {
        LiquoriceRoads x = new LiquoriceRoads();
        due("text of " + text, Tapes.text(x, text), what == 0 ? 0 : NONE);
        due("fault of " + text, x.fault(0), what);
        due("place of " + text, x.fault(1), place);
    }

    static void sound(String text) {
        fault(text, 0, NONE);
    }

    /** sucks by a law: GOER 0 (MOUTH 7) of ROAD 0 (4 miles, 30 thick); ROAD 1 is 12 thick. */
    static void law(String sum, int want) {
        LiquoriceRoads x = ruled("sucks " + sum + ";");
        x.road(0, 1, 4, 30);
        x.road(1, 2, 3, 12);
        x.goer(0, 7);
        due("sucks " + sum, x.sucks(0, 0), want);
    }

    /** What a SUM is, be it below 0 or above 99; want is a SUM as well. */
    static void sum(String sum, String want) {
        law("if " + sum + "=" + want + " then 1 else 0 end", 1);
    }
}
