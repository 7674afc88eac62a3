/** Boundary cases of section V, YEARS and THE IMAGE, a test for each sentence. */
final class EdgesOfYears extends Edges {
    private EdgesOfYears() {
    }

    static void run() {
        p14Seeds();
        p14GoerGoes();
        p14LaidAnew();
        p14Coiled();
        p14Days();
        p14NoneOf();
        p14OneStep();
        p46Image();
        p46ImageOfSaid();
        p46ImageOfTexts();
        p47Back();
        p47BackOfSteps();
    }

    private static final String YEARS = "YEARS by a SEED: X is SEED (0 .. 9999) * 2 + 283; n times (1 .. 40): x is X, X anew (as in a draw):"
        + " x mod 6: 0, 1 GOER x mod how many goes ROAD x / 6 mod how many; 2 ROAD x / 6 mod how many is LAID ANEW;"
        + " 3 COILED by 1 and x mod 9 (each if it can be); 4, 5 a DAY (if it can pass)";

    /** The least SEED whose first and second x are so mod 6. */
    private static int seed(int first, int second) {
        int seed = 0;
        while (seed < 9999 && ((seed * 2 + 283) % 6 != first || drawn(seed * 2 + 283) % 6 != second)) {
            seed++;
        }
        due("a seed of " + first + ", " + second, seed < 9999, true);
        return seed;
    }

    private static void p14Seeds() {
        says(14, YEARS);
        LiquoriceRoads x = new LiquoriceRoads();
        String before = state(x);
        due("seed -1", x.years(-1, 1), NONE);
        due("seed 10000", x.years(10000, 1), NONE);
        due("n 0", x.years(0, 0), NONE);
        due("n 41", x.years(0, 41), NONE);
        unchanged(x, before);
        due("the least seed, once", x.years(0, 1), 0);
        due("X", x.is(1), drawn(283));
        due("the greatest seed, once: 20281 mod 6 = 1", x.years(9999, 1), 0);
        due("X", x.is(1), drawn(20281));
        LiquoriceRoads y = new LiquoriceRoads();
        int drawn = 283;
        int days = 0;
        for (int i = 0; i < 40; i++) {
            int kind = drawn % 6;
            days += kind > 3 ? 1 : 0;
            drawn = kind > 3 ? drawn(drawn(drawn)) : drawn(drawn);
        }
        due("forty times", y.years(0, 40), days);
        due("X", y.is(1), drawn);
    }

    /** For 0 by the second x, the first being a DAY that nobody goes in, or nothing that can be. */
    private static void p14GoerGoes() {
        says(14, YEARS);
        for (int seed = 0; seed < 60; seed++) {
            int x = seed * 2 + 283;
            if (x % 6 == 1) {
                goes(seed, x, 1);
                int next = drawn(x);
                if (next % 6 == 0) {
                    goes(seed, next, 2);
                }
            }
        }
    }

    /** All GOERS can go all ROADS, which are of like TOWNS; the last of n goings tells who went where. */
    private static void goes(int seed, int x, int n) {
        LiquoriceRoads y = ruled("sucks 1;");
        for (int road = 0; road < 7; road++) {
            y.road(0, 1, 1, 9);
        }
        for (int goer = 0; goer < 4; goer++) {
            y.goer(goer % 2, 1);
        }
        due("no day", y.years(seed, n), 0);
        due("how many went", y.book(NONE, 0), n);
        due("goer x mod how many", y.book(n - 1, 1), x % 4);
        due("road x / 6 mod how many", y.book(n - 1, 2), x / 6 % 7);
        LiquoriceRoads one = ruled("sucks 1;");
        one.road(0, 1, 1, 9);
        one.goer(0, 1);
        one.years(seed, n);
        due("of one and one", one.book(NONE, 0), n);
        LiquoriceRoads z = new LiquoriceRoads();
        z.road(0, 1, 1, 9);
        z.goer(2, 1);
        due("it can't go", z.years(seed, n), 0);
        due("nobody went", z.book(NONE, 0), 0);
        due("X anew all the same", z.is(1), drawn(x));
    }

    private static void p14LaidAnew() {
        says(14, YEARS);
        int seed = seed(1, 2);
        int second = drawn(seed * 2 + 283);
        for (int coil = 4; coil <= 6; coil++) {
            LiquoriceRoads x = ruled("sucks 1;");
            x.road(0, 1, 5, 9);
            x.road(0, 1, 5, 9);
            x.road(0, 1, 5, 9);
            x.goer(0, 1);
            for (int i = 0; i < 4; i++) {
                x.go(0, 0);
                x.relay(0);
            }
            x.coil(coil);
            due("coil", x.is(3), coil);
            for (int road = 0; road < 3; road++) {
                x.go(0, road);
            }
            rule(x, "sucks 99;");
            due("no day", x.years(seed, 2), 0);
            int road = second / 6 % 3;
            due("laid anew, if it can be", x.of(road, 3), coil < 5 ? 8 : 9);
            due("the others not", x.of((road + 1) % 3, 3) + x.of((road + 2) % 3, 3), 16);
            due("coil less by 5, if it can be", x.is(3), coil < 5 ? coil : coil - 5);
            due("X anew", x.is(1), drawn(second));
        }
        LiquoriceRoads y = ruled("sucks 99;");
        y.road(0, 1, 5, 9);
        due("as at first already", y.years(seed, 2), 0);
        due("coil stays", y.is(3), 20);
    }

    private static void p14Coiled() {
        says(14, YEARS);
        for (int seed = 0; seed < 60; seed++) {
            int x = seed * 2 + 283;
            if (x % 6 == 3) {
                LiquoriceRoads y = new LiquoriceRoads();
                y.years(seed, 1);
                due("by 1 and x mod 9", y.is(3), 21 + x % 9);
                for (int over = -1; over <= 1; over++) {
                    LiquoriceRoads z = new LiquoriceRoads();
                    int full = 999 - 1 - x % 9 + over;
                    coilTo(z, full);
                    z.years(seed, 1);
                    due("not beyond 999", z.is(3), over > 0 ? full : 999 + over);
                    due("X anew", z.is(1), drawn(x));
                }
            }
        }
    }

    private static void p14Days() {
        says(14, YEARS);
        int five = seed(5, 1);
        int four = seed(1, 4);
        LiquoriceRoads x = new LiquoriceRoads();
        due("5 is a day", x.years(five, 1), 1);
        due("a draw and its own", x.is(1), drawn(drawn(five * 2 + 283)));
        due("4 is a day", x.years(four, 2), 2);
        LiquoriceRoads y = aged(9998);
        due("the last", y.years(five, 1), 9999);
        due("it can't pass", y.years(five, 1), 9999);
        due("no draw of a day", y.is(1), drawn(five * 2 + 283));
        due("it can't pass", y.years(four, 2), 9999);
    }

    private static void p14NoneOf() {
        says(14, "What there are none of isn't");
        int[] seeds = {seed(1, 0), seed(1, 2), seed(1, 1)};
        for (int seed : seeds) {
            LiquoriceRoads x = new LiquoriceRoads();
            due("neither", x.years(seed, 2), 0);
            due("X anew twice", x.is(1), drawn(drawn(seed * 2 + 283)));
            due("nobody went", x.book(NONE, 0), 0);
            x.goer(0, 1);
            due("goers alone", x.years(seed, 2), 0);
            due("nobody went", x.book(NONE, 0), 0);
            LiquoriceRoads y = new LiquoriceRoads();
            y.road(0, 1, 1, 9);
            due("roads alone", y.years(seed, 2), 0);
            due("nobody went", y.book(NONE, 0), 0);
            due("coil", y.is(3), 20);
        }
    }

    private static void p14OneStep() {
        says(14, "It is one STEP: DAY");
        LiquoriceRoads x = shire();
        x.goer(0, 3);
        x.goer(2, 3);
        x.day(3);
        String before = state(x);
        int day = x.years(77, 40);
        due("the day it is then", day, x.is(0));
        due("more than one passed", day > 4, true);
        due("one step", x.about(4), 4);
        due("taken back at once", x.undo(), 3);
        unchanged(x, before);
        LiquoriceRoads y = new LiquoriceRoads();
        y.years(0, 1);
        due("a step even if nothing could be", y.about(4), 1);
        y.undo();
        due("X as ahead of it", y.is(1), 283);
        for (int i = 0; i < 31; i++) {
            y.years(i, 1);
        }
        due("the latest 30", y.about(4), 30);
    }

    private static final String IMAGE = "AN IMAGE: all as it is, but the tape and the latest FAULT";

    private static void p46Image() {
        says(46, IMAGE);
        LiquoriceRoads x = ruled("sucks 1;swells rain;");
        x.road(0, 1, 4, 10);
        x.road(1, 2, 3, 8);
        x.goer(0, 5);
        x.goer(2, 9);
        x.day(12);
        x.said(0, 0, 1);
        x.coil(3);
        x.feed(1, 2, 3, 4, 5);
        String before = state(x);
        x.image();
        unchanged(x, before);
        x.road(3, 4, 5, 6);
        x.goer(3, 4);
        x.day(31);
        x.years(9, 9);
        x.said(1, 1, 9);
        x.by(NONE);
        x.back();
        unchanged(x, before);
        due("road 0 of", x.of(0, 2), 4);
        due("goer 1 of", x.ofGoer(1, 1), 9);
        x.end(7);
        due("fault", Tapes.text(x, "coil 1000;"), NONE);
        x.feed(1, 2, 3, 4, 5);
        x.back();
        due("the tape isn't of it", x.about(6), 20);
        due("the latest fault isn't of it", x.fault(0), 2);
        due("nor its place", x.fault(1), 5);
    }

    private static void p46ImageOfSaid() {
        says(46, IMAGE);
        LiquoriceRoads x = shire();
        x.goer(0, 5);
        x.goer(0, 5);
        Tapes.text(x, "sucks 10*who+way;");
        x.said(0, 1, 1);
        x.said(1, 2, 12);
        x.image();
        int[][] others = {{1, 1, 1}, {0, 2, 1}, {0, 1, 2}};
        for (int[] other : others) {
            x.said(NONE, 0, 0);
            x.said(other[0], other[1], other[2]);
            x.said(other[0], other[1], other[2]);
            due("other things are said", x.whose(), 0);
            x.back();
            due("two are said", x.about(5), 2);
            due("as in the image", x.whose(), 1);
        }
        x.said(0, 0, 1);
        due("a third", x.whose(), 0);
        x.back();
        due("as in the image", x.whose(), 1);
    }

    private static void p46ImageOfTexts() {
        says(46, IMAGE);
        LiquoriceRoads x = small();
        Tapes.text(x, "sucks 5;");
        x.image();
        for (int round = 0; round < 2; round++) {
            for (int text = 1; text < 4; text++) {
                due("text", Tapes.text(x, "sucks " + (10 * round + text) + ";"), text);
            }
            x.by(3);
            due("the fourth rules", x.sucks(0, 0), 10 * round + 3);
            x.back();
            due("one text again", x.about(2), 1);
            due("none rules", x.about(3), NONE);
            due("others are gone", x.by(1), false);
            x.by(0);
            due("the first is as it was", x.sucks(0, 0), 5);
            due("a spoilt one", Tapes.text(x, "sucks 6;sucks 7;"), NONE);
            due("the first is as it was", x.sucks(0, 0), 5);
        }
    }

    private static void p47Back() {
        says(47, "BACK: all is so again");
        LiquoriceRoads x = small();
        x.image();
        String image = state(x);
        x.road(5, 6, 7, 8);
        x.goer(5, 6);
        x.go(0, 0);
        x.go(1, 1);
        x.back();
        unchanged(x, image);
        due("road 1 anew", x.road(1, 2, 3, 4), 1);
        due("as told anew", x.of(1, 0) * 1000 + x.of(1, 1) * 100 + x.of(1, 2) * 10 + x.of(1, 3), 1234);
        due("at first", x.of(1, 4), 4);
        due("goer 1 anew", x.goer(3, 2), 1);
        due("where", x.ofGoer(1, 0), 3);
        due("mouth", x.ofGoer(1, 1), 2);
        due("it never went", x.ofGoer(1, 2), 0);
        x.back();
        unchanged(x, image);
    }

    /** STEPS are of the image too, though the ring that holds them has gone round since. */
    private static void p47BackOfSteps() {
        says(47, "BACK: all is so again");
        LiquoriceRoads x = new LiquoriceRoads();
        for (int i = 1; i <= 35; i++) {
            x.coil(i % 9 + 1);
        }
        int coil = x.is(3);
        x.image();
        for (int i = 0; i < 40; i++) {
            x.undo();
        }
        due("all were taken back", x.about(4), 0);
        for (int i = 0; i < 33; i++) {
            x.day(1);
        }
        x.back();
        due("thirty again", x.about(4), 30);
        for (int i = 35; i >= 6; i--) {
            coil -= i % 9 + 1;
            due("yet", x.undo(), i - 6);
            due("coil", x.is(3), coil);
        }
        due("no more", x.undo(), NONE);
    }
}
