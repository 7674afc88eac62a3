/** Boundary cases of promises 16 to 48, what is asked, a test for each sentence under their headings. */
final class EdgesOfQuestions extends Edges {
    private EdgesOfQuestions() {
    }

    static void run() {
        looks();
        nets();
        crowds();
        images();
    }

    private static void looks() {
        p16Of();
        p16OfRefused();
        p17OfGoer();
        p17OfGoerRefused();
        p18Sucks();
        p18SucksRefused();
        p19Is();
        p19IsRefused();
        p20Book();
        p20BookRefused();
        p21Foretold();
        p21ForetoldRefused();
    }

    private static void nets() {
        p22Miles();
        p22MilesRefused();
        p23Way();
        p23WayRefused();
        p24Widest();
        p24WidestRefused();
        p25Flow();
        p25FlowRefused();
        p26Cut();
        p26CutRefused();
        p27Tree();
        p28Bridges();
        p29Carter();
        p29CarterRefused();
        p30Centre();
        p30CentreNone();
        p31Pieces();
        p35Watch();
        p36Colours();
        p37Likely();
        p37LikelyRefused();
        p38Ring();
        p38RingRefused();
        p44Lonely();
    }

    private static void crowds() {
        p32Times();
        p32TimesRefused();
        p33Crowd();
        p33CrowdRefused();
        p34Who();
        p34WhoRefused();
        p39Stranded();
        p40Said();
        p40SaidRefused();
        p41Whose();
        p42Thinnest();
        p42ThinnestNone();
        p43Busiest();
        p43BusiestNone();
        p45Ledger();
        p45LedgerRefused();
    }

    private static void images() {
        p46Image();
        p47Back();
        p48About();
        p48AboutRefused();
    }

    /** All there can be: 16 ROADS, 6 GOERS that suck nothing, and no more. */
    private static LiquoriceRoads full() {
        LiquoriceRoads x = ruled("sucks 0;swells way;");
        for (int road = 0; road < 16; road++) {
            x.road(road % 8, (road + 1) % 8, 1 + road % 9, 99 - road);
        }
        for (int goer = 0; goer < 6; goer++) {
            x.goer(goer, goer + 1);
        }
        return x;
    }

    private static void p16Of() {
        says(16, "Of a ROAD: 0, 1 its TOWNS, 2 LENGTH, 3 THICK now, 4 THICK at first, 5 swells now");
        LiquoriceRoads x = full();
        int[] want = {7, 0, 7, 84, 84, 9};
        for (int what = 0; what < 6; what++) {
            due("road 15, " + what, x.of(15, what), want[what]);
        }
        int[] first = {0, 1, 1, 99, 99, 0};
        for (int what = 0; what < 6; what++) {
            due("road 0, " + what, x.of(0, what), first[what]);
        }
        rule(x, "sucks thick;swells thick/40;");
        x.go(0, 0);
        due("thick now", x.of(0, 3), 0);
        due("thick at first", x.of(0, 4), 99);
        due("swells now", x.of(0, 5), 0);
        due("swells of another now", x.of(1, 5), 2);
    }

    private static void p16OfRefused() {
        says(16, "NONE for others");
        LiquoriceRoads x = small();
        for (int wrong : new int[] {-2, -1, 1, 15, 16}) {
            due("road " + wrong, x.of(wrong, 0), NONE);
        }
        for (int wrong : new int[] {-2, -1, 6, 7}) {
            due("what " + wrong, x.of(0, wrong), NONE);
        }
        for (int far : FAR) {
            due("road " + far, x.of(far, 5), NONE);
            due("what " + far, x.of(0, far), NONE);
        }
        due("no road", new LiquoriceRoads().of(0, 5), NONE);
        due("there is no 16", full().of(16, 3), NONE);
    }

    private static void p17OfGoer() {
        says(17, "Of a GOER: 0 where it is, 1 MOUTH, 2 how often it went, 3 ROADS it can go now (bits)");
        LiquoriceRoads x = full();
        due("where", x.ofGoer(5, 0), 5);
        due("mouth", x.ofGoer(5, 1), 6);
        due("went", x.ofGoer(5, 2), 0);
        due("roads 4, 5, 12, 13", x.ofGoer(5, 3), 16 + 32 + 4096 + 8192);
        due("roads 0, 7, 8, 15", x.ofGoer(0, 3), 1 + 128 + 256 + 32768);
        x.go(0, 15);
        due("where", x.ofGoer(0, 0), 7);
        due("went", x.ofGoer(0, 2), 1);
        rule(x, "sucks 91;");
        due("of 6, 7, 14, 15 those of 91 or more", x.ofGoer(0, 3), 64 + 128);
        rule(x, "sucks 93;");
        due("6 has 93", x.ofGoer(0, 3), 64);
        rule(x, "sucks 94;");
        due("none", x.ofGoer(0, 3), 0);
    }

    private static void p17OfGoerRefused() {
        says(17, "NONE for others");
        LiquoriceRoads x = small();
        for (int wrong : new int[] {-2, -1, 1, 5, 6}) {
            due("goer " + wrong, x.ofGoer(wrong, 0), NONE);
        }
        for (int wrong : new int[] {-2, -1, 4, 5}) {
            due("what " + wrong, x.ofGoer(0, wrong), NONE);
        }
        for (int far : FAR) {
            due("goer " + far, x.ofGoer(far, 3), NONE);
            due("what " + far, x.ofGoer(0, far), NONE);
        }
        due("nobody", new LiquoriceRoads().ofGoer(0, 0), NONE);
        due("there is no 6", full().ofGoer(6, 0), NONE);
    }

    private static void p18Sucks() {
        says(18, "sucks now");
        LiquoriceRoads x = full();
        due("by the text", x.sucks(5, 15), 0);
        x.by(NONE);
        due("by none: mouth 6", x.sucks(5, 15), 3);
        due("by none: mouth 1", x.sucks(0, 0), 1);
        rule(x, "sucks thick+went*10;");
        due("of a road elsewhere", x.sucks(5, 15), 84);
        due("more than it has is 99", x.sucks(0, 0), 99);
        x.go(0, 0);
        due("now", x.sucks(0, 0), 10);
    }

    private static void p18SucksRefused() {
        says(18, "NONE for others");
        LiquoriceRoads x = small();
        for (int wrong : new int[] {-2, -1, 1, 5, 6}) {
            due("goer " + wrong, x.sucks(wrong, 0), NONE);
        }
        for (int wrong : new int[] {-2, -1, 1, 15, 16}) {
            due("road " + wrong, x.sucks(0, wrong), NONE);
        }
        for (int far : FAR) {
            due("goer " + far, x.sucks(far, 0), NONE);
            due("road " + far, x.sucks(0, far), NONE);
        }
        due("nobody, nothing", new LiquoriceRoads().sucks(0, 0), NONE);
    }

    private static void p19Is() {
        says(19, "0 DAY, 1 X, 2 RAIN (1, 0), 3 COIL");
        LiquoriceRoads x = new LiquoriceRoads();
        x.coil(79);
        x.day(60);
        due("day", x.is(0), 60);
        int drawn = 283;
        int wet = 0;
        for (int i = 0; i < 60; i++) {
            wet = drawn % 10 < 3 ? 1 : 0;
            drawn = drawn(drawn);
        }
        due("X", x.is(1), drawn);
        due("rain", x.is(2), wet);
        due("coil", x.is(3), 99);
    }

    private static void p19IsRefused() {
        says(19, "-2 for others");
        LiquoriceRoads x = new LiquoriceRoads();
        due("-1", x.is(-1), -2);
        due("4", x.is(4), -2);
        for (int far : FAR) {
            due("what " + far, x.is(far), -2);
        }
    }

    private static void p20Book() {
        says(20, "BOOK: how many (i NONE); the i-th, from the eldest on: 0 DAY, 1 GOER, 2 ROAD, 3 how much was sucked");
        LiquoriceRoads x = ruled("sucks 1+who;");
        x.road(0, 1, 1, 99);
        x.road(0, 1, 1, 99);
        x.goer(0, 1);
        x.goer(0, 1);
        x.go(1, 0);
        x.day(1);
        x.go(0, 1);
        due("four", x.book(NONE, 0), 4);
        due("the eldest", x.book(0, 1), 1);
        due("its road", x.book(0, 2), 0);
        due("its sucks", x.book(0, 3), 2);
        due("its day", x.book(0, 0), 0);
        due("the latest", x.book(3, 1), 0);
        due("its road", x.book(3, 2), 1);
        due("its sucks", x.book(3, 3), 1);
        due("its day", x.book(3, 0), 1);
        due("a going of a day is of the day it was", x.book(2, 0), 0);
    }

    private static void p20BookRefused() {
        says(20, "-2 if there is none such, and for others");
        LiquoriceRoads x = small();
        due("empty", x.book(0, 0), -2);
        x.go(0, 0);
        due("one", x.book(0, 3), 2);
        for (int wrong : new int[] {-2, 1, 29, 30}) {
            due("i " + wrong, x.book(wrong, 0), -2);
        }
        for (int wrong : new int[] {-2, -1, 4, 5}) {
            due("what " + wrong, x.book(0, wrong), -2);
        }
        for (int far : FAR) {
            due("i " + far, x.book(far, 0), -2);
            due("what " + far, x.book(0, far), -2);
        }
        x.undo();
        due("taken back", x.book(0, 0), -2);
    }

    private static void p21Foretold() {
        says(21, "FORETOLD: 0 THICK of a ROAD, 1 where a GOER is, 2 how often it went");
        LiquoriceRoads x = full();
        due("thick of road 15", x.foretold(60, 0, 15), 84);
        due("goer 5 went", x.foretold(60, 2, 5), 60);
        int where = x.foretold(60, 1, 5);
        x.day(60);
        due("where goer 5 is", x.ofGoer(5, 0), where);
        LiquoriceRoads y = small();
        due("thick", y.foretold(1, 0, 0), 7);
        due("where", y.foretold(1, 1, 0), 1);
        due("went", y.foretold(1, 2, 0), 1);
    }

    private static void p21ForetoldRefused() {
        says(21, "NONE for others");
        LiquoriceRoads x = small();
        x.road(5, 6, 1, 9);
        due("a road 1", x.foretold(1, 0, 1), 9);
        due("no goer 1: where", x.foretold(1, 1, 1), NONE);
        due("no goer 1: went", x.foretold(1, 2, 1), NONE);
        due("no road 2", x.foretold(1, 0, 2), NONE);
        for (int what = 0; what < 3; what++) {
            due("which -1", x.foretold(1, what, -1), NONE);
        }
        for (int wrong : new int[] {-1, 3, 4}) {
            due("what " + wrong, x.foretold(1, wrong, 0), NONE);
        }
        for (int wrong : new int[] {-1, 0, 61}) {
            due("n " + wrong, x.foretold(wrong, 0, 0), NONE);
        }
        for (int far : FAR) {
            due("n " + far, x.foretold(far, 0, 0), NONE);
            due("what " + far, x.foretold(1, far, 0), NONE);
            due("road " + far, x.foretold(1, 0, far), NONE);
            due("goer " + far, x.foretold(1, 1, far), NONE);
        }
        LiquoriceRoads y = new LiquoriceRoads();
        y.goer(0, 1);
        y.goer(0, 1);
        due("no road, though a goer", y.foretold(1, 0, 1), NONE);
        due("a goer", y.foretold(1, 1, 1), 0);
    }

    private static void p22Miles() {
        says(22, "MILES");
        LiquoriceRoads x = full();
        due("the least thick", x.miles(0, 1, 0), 1);
        due("as thick as the thickest", x.miles(0, 1, 99), 1);
        due("over 0, 9, 10, 11", x.miles(0, 4, 1), 1 + 1 + 2 + 3);
        due("the other way round, over 15, 14", x.miles(0, 6, 1), 7 + 6);
        due("over 0 to 3 alone: 96 or more", x.miles(0, 4, 96), 1 + 2 + 3 + 4);
    }

    private static void p22MilesRefused() {
        says(22, "NONE: no way, and for others (thick 0 .. 99)");
        LiquoriceRoads x = shire();
        due("no way", x.miles(0, 4, 0), NONE);
        due("no way to a lonely town", x.miles(7, 0, 0), NONE);
        due("none so thick", x.miles(0, 1, 99), NONE);
        for (int wrong : new int[] {-1, 8}) {
            due("from " + wrong, x.miles(wrong, 0, 0), NONE);
            due("to " + wrong, x.miles(0, wrong, 0), NONE);
            due("of itself " + wrong, x.miles(wrong, wrong, 0), NONE);
        }
        due("thick -1", x.miles(0, 1, -1), NONE);
        due("thick 100", x.miles(0, 1, 100), NONE);
        due("thick -1, to itself", x.miles(0, 0, -1), NONE);
        due("thick 100, to itself", x.miles(0, 0, 100), NONE);
        for (int far : FAR) {
            due("from " + far, x.miles(far, 0, 0), NONE);
            due("to " + far, x.miles(0, far, 0), NONE);
            due("thick " + far, x.miles(0, 1, far), NONE);
        }
    }

    private static void p23Way() {
        says(23, "A WAY: the i-th ROAD");
        LiquoriceRoads x = full();
        due("the first", x.way(0, 4, 1, 0), 0);
        due("the last", x.way(0, 4, 1, 3), 11);
        due("the last, over thicker ones", x.way(0, 4, 96, 3), 3);
        due("as thick as can be", x.way(1, 0, 99, 0), 0);
        due("the first, back", x.way(4, 0, 1, 0), 11);
        due("the last, back", x.way(4, 0, 1, 3), 0);
        due("road 15 of 7 miles, not 7 of 8", x.way(7, 0, 1, 0), 15);
    }

    private static void p23WayRefused() {
        says(23, "-2: none, there is none such, and for others");
        LiquoriceRoads x = shire();
        due("none", x.way(0, 4, 0, 0), -2);
        due("none so thick", x.way(0, 1, 11, 0), -2);
        due("to itself", x.way(0, 0, 0, 0), -2);
        due("the third there is", x.way(0, 3, 0, 2), 3);
        due("no fourth", x.way(0, 3, 0, 3), -2);
        for (int wrong : new int[] {-2, -1, 7, 8, 9}) {
            due("i " + wrong, x.way(0, 3, 0, wrong), -2);
        }
        for (int wrong : new int[] {-1, 8}) {
            due("from " + wrong, x.way(wrong, 0, 0, 0), -2);
            due("to " + wrong, x.way(0, wrong, 0, 0), -2);
        }
        due("thick -1", x.way(0, 1, -1, 0), -2);
        due("thick 100", x.way(0, 1, 100, 0), -2);
        for (int far : FAR) {
            due("from " + far, x.way(far, 0, 0, 0), -2);
            due("to " + far, x.way(0, far, 0, 0), -2);
            due("thick " + far, x.way(0, 1, far, 0), -2);
            due("i " + far, x.way(0, 1, 0, far), -2);
        }
    }

    private static void p24Widest() {
        says(24, "WIDEST");
        LiquoriceRoads x = full();
        due("straight", x.widest(0, 1), 99);
        due("the thinnest of 0 to 3", x.widest(0, 4), 96);
        due("of 0 to 6, not 7", x.widest(7, 0), 93);
    }

    /** What takes two unlike TOWNS alone. */
    private static int[][] wrongTowns() {
        int[][] wrong = new int[12 + 3 * FAR.length][];
        for (int town = 0; town < 8; town++) {
            wrong[town] = new int[] {town, town};
        }
        wrong[8] = new int[] {-1, 0};
        wrong[9] = new int[] {8, 0};
        wrong[10] = new int[] {0, -1};
        wrong[11] = new int[] {0, 8};
        for (int i = 0; i < FAR.length; i++) {
            wrong[12 + 3 * i] = new int[] {FAR[i], 0};
            wrong[13 + 3 * i] = new int[] {0, FAR[i]};
            wrong[14 + 3 * i] = new int[] {FAR[i], FAR[(i + 1) % FAR.length]};
        }
        return wrong;
    }

    private static void p24WidestRefused() {
        says(24, "NONE: no way, and for others (unlike TOWNS)");
        LiquoriceRoads x = shire();
        due("no way", x.widest(0, 4), NONE);
        due("no way to a lonely town", x.widest(7, 6), NONE);
        for (int[] wrong : wrongTowns()) {
            due("from " + wrong[0] + " to " + wrong[1], x.widest(wrong[0], wrong[1]), NONE);
        }
    }

    private static void p25Flow() {
        says(25, "FLOW");
        LiquoriceRoads x = full();
        // of both sides of the ring the thinnest: 0 and 8 have 99 and 91, 7 and 15 have 92 and 84
        due("all that 0 has but the thinner side", x.flow(0, 1), 99 + 91 + 92 + 84);
        due("no way is 0, not NONE", shire().flow(0, 4), 0);
    }

    private static void p25FlowRefused() {
        says(25, "NONE for others (unlike TOWNS)");
        LiquoriceRoads x = shire();
        for (int[] wrong : wrongTowns()) {
            due("from " + wrong[0] + " to " + wrong[1], x.flow(wrong[0], wrong[1]), NONE);
        }
    }

    private static void p26Cut() {
        says(26, "A CUT: TOWNS (bits)");
        LiquoriceRoads x = full();
        due("the first alone", x.cut(0, 1), 1);
        due("all but the other: 6-7 and 7-0 are the thinnest", x.cut(0, 7), 127);
        due("the highest alone", x.cut(7, 0), 128);
        due("no way: its piece", shire().cut(4, 0), 16 + 32);
    }

    private static void p26CutRefused() {
        says(26, "NONE for others (unlike TOWNS)");
        LiquoriceRoads x = shire();
        for (int[] wrong : wrongTowns()) {
            due("from " + wrong[0] + " to " + wrong[1], x.cut(wrong[0], wrong[1]), NONE);
        }
    }

    private static void p27Tree() {
        says(27, "A TREE: LENGTH together (roads false), ROADS (roads true; bits)");
        LiquoriceRoads x = full();
        due("roads 0 and 9 to 14", x.tree(true), 1 + (0x7fff & ~511));
        due("length", x.tree(false), 1 + 1 + 2 + 3 + 4 + 5 + 6);
    }

    private static void p28Bridges() {
        says(28, "BRIDGES (bits)");
        due("none of two of each", full().bridges(), 0);
        due("road 3 and road 4", shire().bridges(), 24);
    }

    private static void p29Carter() {
        says(29, "THE CARTER: miles");
        int once = 0;
        for (int road = 0; road < 16; road++) {
            once += 1 + road % 9;
        }
        LiquoriceRoads x = full();
        for (int town = 0; town < 8; town++) {
            due("all even: each road once", x.carter(town), once);
        }
    }

    private static void p29CarterRefused() {
        says(29, "NONE: he can't, and for others");
        LiquoriceRoads x = shire();
        due("two pieces", x.carter(0), NONE);
        due("a lonely town", x.carter(7), NONE);
        due("no net", new LiquoriceRoads().carter(0), NONE);
        LiquoriceRoads y = full();
        due("-1", y.carter(-1), NONE);
        due("8", y.carter(8), NONE);
        for (int far : FAR) {
            due("town " + far, y.carter(far), NONE);
        }
    }

    private static void p30Centre() {
        says(30, "THE CENTRE");
        LiquoriceRoads x = new LiquoriceRoads();
        x.road(7, 0, 1, 1);
        due("the lowest", x.centre(), 0);
        x.road(7, 1, 1, 1);
        due("the highest", x.centre(), 7);
    }

    private static void p30CentreNone() {
        says(30, "NONE: none");
        LiquoriceRoads x = new LiquoriceRoads();
        due("no road", x.centre(), NONE);
        x.road(0, 1, 1, 5);
        due("a road", x.centre(), 0);
        suckedTo(x, 0, 0);
        due("it has nothing left", x.centre(), NONE);
    }

    private static void p31Pieces() {
        says(31, "PIECES");
        due("none", new LiquoriceRoads().pieces(), 0);
        due("one", full().pieces(), 1);
        due("two", shire().pieces(), 2);
    }

    private static void p35Watch() {
        says(35, "WATCHED: TOWNS (many false; bits), how many (many true)");
        LiquoriceRoads x = new LiquoriceRoads();
        due("none", x.watch(false), 0);
        due("none", x.watch(true), 0);
        due("every second of a ring", full().watch(false), 1 + 4 + 16 + 64);
        due("four", full().watch(true), 4);
    }

    private static void p36Colours() {
        says(36, "COLOURS");
        due("one", new LiquoriceRoads().colours(), 1);
        due("two", full().colours(), 2);
        due("three", shire().colours(), 3);
    }

    private static void p37Likely() {
        says(37, "LIKELY: the upper (low false), the lower one (low true)");
        LiquoriceRoads x = full();
        due("upper", x.likely(0, 3, 7, false), 3);
        due("lower", x.likely(0, 3, 7, true), 8);
        due("upper of 0", x.likely(0, 3, 0, false), 0);
        due("lower of 0", x.likely(0, 3, 0, true), 1);
        due("upper of 1", x.likely(7, 0, 7, false), 1);
        due("lower of 1", x.likely(7, 0, 7, true), 1);
    }

    private static void p37LikelyRefused() {
        says(37, "NONE for others (n 0 .. 3)");
        LiquoriceRoads x = shire();
        for (int i = 0; i < 2; i++) {
            boolean low = i == 1;
            due("n -1", x.likely(0, -1, 0, low), NONE);
            due("n 4", x.likely(0, 4, 0, low), NONE);
            for (int wrong : new int[] {-1, 8}) {
                due("from " + wrong, x.likely(wrong, 0, 0, low), NONE);
                due("to " + wrong, x.likely(0, 0, wrong, low), NONE);
                due("of itself " + wrong, x.likely(wrong, 0, wrong, low), NONE);
            }
            for (int far : FAR) {
                due("from " + far, x.likely(far, 0, 0, low), NONE);
                due("n " + far, x.likely(0, far, 0, low), NONE);
                due("to " + far, x.likely(0, 0, far, low), NONE);
            }
        }
    }

    private static void p38Ring() {
        says(38, "A RING: miles");
        LiquoriceRoads x = full();
        due("0 and 8", x.ring(0), 1 + 9);
        due("1 and 9, not 0 and 8", x.ring(2), 2 + 1);
        due("6 and 14, not 7 and 15", x.ring(7), 7 + 6);
    }

    private static void p38RingRefused() {
        says(38, "NONE: none, and for others");
        LiquoriceRoads x = shire();
        due("none: a tail", x.ring(3), NONE);
        due("none: one road", x.ring(4), NONE);
        due("none: lonely", x.ring(7), NONE);
        LiquoriceRoads y = full();
        due("-1", y.ring(-1), NONE);
        due("8", y.ring(8), NONE);
        for (int far : FAR) {
            due("town " + far, y.ring(far), NONE);
        }
    }

    private static void p44Lonely() {
        says(44, "LONELY: TOWNS (bits)");
        due("all", new LiquoriceRoads().lonely(), 255);
        due("none", full().lonely(), 0);
        due("6 and 7", shire().lonely(), 192);
    }

    private static void p32Times() {
        says(32, "TIMES");
        LiquoriceRoads x = full();
        due("the most", x.times(5, 15), 99);
        x.by(NONE);
        due("84 by 3", x.times(5, 15), 28);
        due("99 by 1", x.times(0, 0), 99);
    }

    private static void p32TimesRefused() {
        says(32, "NONE for others");
        LiquoriceRoads x = small();
        for (int wrong : new int[] {-2, -1, 1, 5, 6}) {
            due("goer " + wrong, x.times(wrong, 0), NONE);
        }
        for (int wrong : new int[] {-2, -1, 1, 15, 16}) {
            due("road " + wrong, x.times(0, wrong), NONE);
        }
        for (int far : FAR) {
            due("goer " + far, x.times(far, 0), NONE);
            due("road " + far, x.times(0, far), NONE);
        }
        due("nobody, nothing", new LiquoriceRoads().times(0, 0), NONE);
    }

    private static void p33Crowd() {
        says(33, "A CROWD: how many (i NONE), the i-th GOER");
        LiquoriceRoads x = full();
        due("all", x.crowd(15, NONE), 6);
        due("the first", x.crowd(15, 0), 0);
        due("the last", x.crowd(15, 5), 5);
        rule(x, "sucks 99;");
        due("one of 99", x.crowd(0, NONE), 1);
        due("none of 98", x.crowd(1, NONE), 0);
    }

    private static void p33CrowdRefused() {
        says(33, "-2 if there is none such, and for others");
        LiquoriceRoads x = small();
        due("one", x.crowd(0, 0), 0);
        for (int wrong : new int[] {-2, 1, 5, 6}) {
            due("i " + wrong, x.crowd(0, wrong), -2);
        }
        for (int wrong : new int[] {-2, -1, 1, 15, 16}) {
            due("road " + wrong, x.crowd(wrong, 0), -2);
            due("road " + wrong + ", how many", x.crowd(wrong, NONE), -2);
        }
        for (int far : FAR) {
            due("i " + far, x.crowd(0, far), -2);
            due("road " + far, x.crowd(far, NONE), -2);
        }
        due("no road", new LiquoriceRoads().crowd(0, NONE), -2);
        due("none of six", full().crowd(0, 6), -2);
    }

    private static void p34Who() {
        says(34, "WHO WENT: in how many ways");
        LiquoriceRoads x = full();
        x.image();
        due("4 to the 6th", x.who(15), 4096);
        x.by(NONE);
        due("nobody", x.who(15), 1);
    }

    private static void p34WhoRefused() {
        says(34, "NONE for others");
        LiquoriceRoads x = small();
        due("not in the first image", x.who(0), NONE);
        x.image();
        x.road(0, 1, 1, 1);
        due("there", x.who(0), 1);
        due("told since", x.who(1), NONE);
        for (int wrong : new int[] {-2, -1, 2, 15, 16}) {
            due("road " + wrong, x.who(wrong), NONE);
        }
        for (int far : FAR) {
            due("road " + far, x.who(far), NONE);
        }
        LiquoriceRoads y = full();
        y.image();
        due("there is no 16", y.who(16), NONE);
    }

    private static void p39Stranded() {
        says(39, "STRANDED: GOERS (bits)");
        due("nobody", new LiquoriceRoads().stranded(), 0);
        LiquoriceRoads x = full();
        due("none of six", x.stranded(), 0);
        rule(x, "sucks 97;");
        due("3 has 97 of road 2, 4 and 5 have less", x.stranded(), 16 + 32);
        rule(x, "sucks 99;");
        due("0 and 1 have 99 of road 0", x.stranded(), 4 + 8 + 16 + 32);
    }

    private static void p40Said() {
        says(40, "SAID: how many there are (goer NONE: none any more)");
        LiquoriceRoads x = full();
        due("none of none", x.said(NONE, 0, 0), 0);
        due("one", x.said(5, 15, 99), 1);
        due("the same once more", x.said(5, 15, 99), 2);
        for (int n = 3; n <= 8; n++) {
            due("one more", x.said(0, 0, 0), n);
        }
        due("none any more", x.said(NONE, 0, 0), 0);
        due("none", x.about(5), 0);
        due("room again", x.said(0, 0, 0), 1);
        due("whatever the others are", x.said(NONE, -5, 1000), 0);
    }

    private static void p40SaidRefused() {
        says(40, "-2 for others, or if there are 8");
        LiquoriceRoads x = small();
        for (int wrong : new int[] {-2, 1, 5, 6}) {
            due("goer " + wrong, x.said(wrong, 0, 0), -2);
        }
        for (int wrong : new int[] {-2, -1, 1, 15, 16}) {
            due("road " + wrong, x.said(0, wrong, 0), -2);
        }
        for (int wrong : new int[] {-2, -1, 100, 101}) {
            due("sucks " + wrong, x.said(0, 0, wrong), -2);
        }
        for (int far : FAR) {
            due("goer " + far, x.said(far, 0, 0), -2);
            due("road " + far, x.said(0, far, 0), -2);
            due("sucks " + far, x.said(0, 0, far), -2);
        }
        due("none is said", x.about(5), 0);
        Tapes.text(x, "sucks 7;");
        for (int n = 1; n <= 8; n++) {
            due("said", x.said(0, 0, 7), n);
        }
        due("there are 8", x.said(0, 0, 6), -2);
        due("8 still", x.about(5), 8);
        due("as said", x.whose(), 1);
    }

    private static void p41Whose() {
        says(41, "WHOSE LAW (bits)");
        LiquoriceRoads x = small();
        due("no text", x.whose(), 0);
        Tapes.text(x, "sucks 1;");
        Tapes.text(x, "sucks 2;");
        Tapes.text(x, "sucks 3;");
        Tapes.text(x, "sucks 4-2;");
        due("nothing said", x.whose(), 15);
        x.said(0, 0, 2);
        due("the second and the last", x.whose(), 2 + 8);
        x.said(0, 0, 3);
        due("none", x.whose(), 0);
    }

    private static void p42Thinnest() {
        says(42, "THINNEST");
        due("the last", full().thinnest(), 15);
        due("road 4", shire().thinnest(), 4);
    }

    private static void p42ThinnestNone() {
        says(42, "NONE: none");
        LiquoriceRoads x = new LiquoriceRoads();
        due("no road", x.thinnest(), NONE);
        x.road(0, 1, 1, 99);
        due("one", x.thinnest(), 0);
        x.back();
        due("none again", x.thinnest(), NONE);
    }

    private static void p43Busiest() {
        says(43, "BUSIEST");
        LiquoriceRoads x = full();
        x.go(5, 5);
        due("the last", x.busiest(), 5);
        x.day(60);
        due("by one", x.busiest(), 5);
        due("it went 61 times", x.ofGoer(5, 2), 61);
    }

    private static void p43BusiestNone() {
        says(43, "NONE: none");
        due("nobody", new LiquoriceRoads().busiest(), NONE);
        LiquoriceRoads x = full();
        due("nobody went", x.busiest(), NONE);
        x.day(1);
        due("all went once", x.busiest(), 0);
    }

    private static void p45Ledger() {
        says(45, "BY THE BOOK");
        LiquoriceRoads x = ruled("sucks 99;");
        for (int road = 0; road < 16; road++) {
            x.road(0, 1, 1, 99);
        }
        for (int goer = 0; goer < 6; goer++) {
            x.goer(0, 1);
        }
        for (int road = 0; road < 16; road++) {
            x.go(road < 15 ? 5 : 0, road);
        }
        due("15 times 99", x.ledger(5), 1485);
        due("once", x.ledger(0), 99);
        due("never", x.ledger(3), 0);
        due("all", x.ledger(NONE), 1584);
    }

    private static void p45LedgerRefused() {
        says(45, "-2 for others");
        LiquoriceRoads x = small();
        for (int wrong : new int[] {-2, 1, 5, 6}) {
            due("goer " + wrong, x.ledger(wrong), -2);
        }
        for (int far : FAR) {
            due("goer " + far, x.ledger(far), -2);
        }
        LiquoriceRoads y = new LiquoriceRoads();
        due("nobody: all", y.ledger(NONE), 0);
        due("nobody: 0", y.ledger(0), -2);
    }

    private static void p46Image() {
        says(46, "THE IMAGE is as all is now: DAY");
        LiquoriceRoads x = full();
        due("day 0", x.image(), 0);
        x.day(60);
        due("day 60", x.image(), 60);
        x.day(1);
        x.back();
        due("the latest", x.is(0), 60);
        due("day 9999", aged(9999).image(), 9999);
    }

    private static void p47Back() {
        says(47, "BACK to THE IMAGE (it stays): DAY");
        LiquoriceRoads x = full();
        x.day(5);
        x.image();
        String image = state(x);
        for (int i = 0; i < 3; i++) {
            x.day(33);
            due("day", x.back(), 5);
            unchanged(x, image);
        }
        due("at once again", x.back(), 5);
        due("steps as then", x.undo(), 4);
        due("and day", x.back(), 5);
        unchanged(x, image);
        due("back itself is no step", x.about(4), 5);
    }

    private static void p48About() {
        says(48, "0 ROADS, 1 GOERS, 2 TEXTS, 3 THE TEXT (NONE), 4 STEPS that can be taken back, 5 SAID, 6 bytes of the tape");
        LiquoriceRoads x = new LiquoriceRoads();
        int[] none = {0, 0, 0, NONE, 0, 0, 0};
        for (int what = 0; what < 7; what++) {
            due("none of " + what, x.about(what), none[what]);
        }
        LiquoriceRoads y = full();
        for (int i = 0; i < 3; i++) {
            rule(y, "sucks 0;");
        }
        y.day(60);
        for (int i = 0; i < 15; i++) {
            y.said(0, 0, 0);
            y.feed(0, 0, 0, 0, 0);
        }
        int[] all = {16, 6, 4, 3, 30, 8, 300};
        for (int what = 0; what < 7; what++) {
            due("all of " + what, y.about(what), all[what]);
        }
        y.by(NONE);
        due("none rules", y.about(3), NONE);
    }

    private static void p48AboutRefused() {
        says(48, "-2 for others");
        LiquoriceRoads x = full();
        due("-1", x.about(-1), -2);
        due("7", x.about(7), -2);
        for (int far : FAR) {
            due("what " + far, x.about(far), -2);
        }
    }
}
