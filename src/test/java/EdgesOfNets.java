/** Boundary cases of section III, what comes and the nets, a test for each sentence. */
final class EdgesOfNets extends Edges {
    private EdgesOfNets() {
    }

    static void run() {
        p21NothingIsChanged();
        p21Foretold();
        p21ForetoldAtTheEnd();
        p22Miles();
        p23Way();
        p24Widest();
        p25Flow();
        p26Cut();
        p27NetsOfTree();
        p29NetsOfCarter();
        p37NetsOfLikely();
        p27Tree();
        p28Bridges();
        p31Pieces();
        p29Carter();
        p29CarterPairs();
        p30Centre();
        p38Ring();
        p35Watched();
        p36Colours();
    }

    /** All that is asked, of everybody and everything there is and a little more. */
    private static void askAll(LiquoriceRoads x) {
        for (int road = -1; road <= 5; road++) {
            for (int goer = -1; goer <= 3; goer++) {
                x.sucks(goer, road);
                x.times(goer, road);
            }
            x.of(road, 5);
            x.crowd(road, NONE);
            x.crowd(road, 1);
            x.who(road);
            x.foretold(7, 0, road);
            x.foretold(60, 1, road);
            x.foretold(1, 2, road);
            x.ring(road);
            x.carter(road);
            x.miles(road, 2, 1);
            x.way(road, 2, 1, 0);
            x.widest(road, 2);
            x.flow(road, 2);
            x.cut(road, 2);
            x.likely(road, 3, 1, true);
            x.ofGoer(road, 3);
            x.book(road, 1);
            x.ledger(road);
        }
        x.tree(true);
        x.tree(false);
        x.bridges();
        x.pieces();
        x.centre();
        x.watch(true);
        x.colours();
        x.stranded();
        x.whose();
        x.thinnest();
        x.busiest();
        x.lonely();
    }

    private static void p21NothingIsChanged() {
        says(21, "All that follows changes nothing but what is told");
        LiquoriceRoads x = ruled("sucks (thick+roads 0)/(3+who);swells rain*4;");
        x.road(0, 1, 4, 10);
        x.road(1, 2, 3, 8);
        x.road(0, 2, 9, 5);
        x.road(2, 3, 2, 6);
        x.road(4, 5, 1, 1);
        x.goer(0, 1);
        x.goer(1, 3);
        x.goer(2, 5);
        x.image();
        x.day(3);
        x.said(0, 0, 1);
        x.feed(1, 2, 3, 4, 5);
        String before = state(x);
        int left = x.about(4);
        askAll(x);
        unchanged(x, before);
        due("the step ahead of it is taken back", x.undo(), left - 1);
        due("by one day", x.is(0), 2);
    }

    private static void p21Foretold() {
        says(21, "FORETOLD behind n DAYS (1 .. 60; those that can pass), nothing else being done");
        LiquoriceRoads x = shire();
        x.goer(0, 5);
        x.goer(2, 1);
        due("n 0", x.foretold(0, 0, 0), NONE);
        due("n 61", x.foretold(61, 0, 0), NONE);
        int[] one = {x.foretold(1, 0, 1), x.foretold(1, 1, 1), x.foretold(1, 2, 1)};
        int[] sixty = {x.foretold(60, 0, 1), x.foretold(60, 1, 1), x.foretold(60, 2, 1)};
        x.day(1);
        due("thick behind 1", x.of(1, 3), one[0]);
        due("where behind 1", x.ofGoer(1, 0), one[1]);
        due("went behind 1", x.ofGoer(1, 2), one[2]);
        x.day(59);
        due("thick behind 60", x.of(1, 3), sixty[0]);
        due("where behind 60", x.ofGoer(1, 0), sixty[1]);
        due("went behind 60", x.ofGoer(1, 2), sixty[2]);
    }

    private static void p21ForetoldAtTheEnd() {
        says(21, "FORETOLD behind n DAYS (1 .. 60; those that can pass), nothing else being done");
        LiquoriceRoads x = aged(9997);
        int here = x.ofGoer(0, 0);
        due("one passes", x.foretold(1, 1, 0), 1 - here);
        due("two pass", x.foretold(2, 1, 0), here);
        due("two of three pass", x.foretold(3, 1, 0), here);
        due("two of sixty pass", x.foretold(60, 2, 0), 9999);
        x.day(2);
        String before = state(x);
        due("none passes: where", x.foretold(1, 1, 0), here);
        due("none passes: thick", x.foretold(60, 0, 0), 9);
        due("still no 61", x.foretold(61, 0, 0), NONE);
        unchanged(x, before);
    }

    private static void p22Miles() {
        says(22, "MILES: the least LENGTH together from one TOWN to another one over ROADS that are as THICK as told, or more (to itself 0)");
        LiquoriceRoads x = shire();
        for (int town = 0; town < 8; town++) {
            due("to itself over nothing", x.miles(town, town, 99), 0);
        }
        due("two short ones for a long one", x.miles(0, 2, 0), 7);
        due("as thick as told", x.miles(0, 2, 8), 7);
        due("one more is told", x.miles(0, 2, 9), NONE);
        due("as thick as the long one", x.miles(2, 0, 5), 7);
        due("through all", x.miles(3, 0, 6), 9);
        due("one more is told", x.miles(3, 0, 7), NONE);
        suckedTo(x, 0, 0);
        due("0 is as thick as 0", x.miles(0, 1, 0), 4);
        due("0 is less than 1: round", x.miles(0, 1, 1), 12);
        LiquoriceRoads y = new LiquoriceRoads();
        for (int town = 7; town > 0; town--) {
            y.road(town, town - 1, 9, 99);
        }
        due("the longest", y.miles(7, 0, 99), 63);
        due("fro", y.miles(0, 7, 99), 63);
        y.road(0, 7, 1, 1);
        due("a short one", y.miles(0, 7, 1), 1);
        due("it is too thin", y.miles(0, 7, 2), 63);
    }

    private static void way(LiquoriceRoads x, int a, int b, int thick, int... want) {
        for (int i = 0; i < want.length; i++) {
            due("way from " + a + " to " + b + ", road " + i, x.way(a, b, thick, i), want[i]);
        }
        due("way from " + a + " to " + b + " has no more", x.way(a, b, thick, want.length), -2);
    }

    private static void p23Way() {
        says(23, "A WAY: of that LENGTH; of like ones the lowest first ROAD, then the next, ..");
        LiquoriceRoads x = new LiquoriceRoads();
        x.road(0, 1, 1, 9);
        x.road(1, 2, 1, 9);
        x.road(2, 3, 1, 9);
        x.road(1, 3, 2, 9);
        x.road(0, 3, 3, 9);
        way(x, 0, 3, 0, 0, 1, 2);
        way(x, 3, 0, 0, 2, 1, 0);
        way(x, 1, 3, 9, 1, 2);
        way(x, 0, 3, 10);
        way(x, 3, 3, 0);
        way(x, 0, 7, 0);
        LiquoriceRoads y = new LiquoriceRoads();
        y.road(0, 3, 3, 9);
        y.road(0, 1, 1, 9);
        y.road(1, 3, 2, 5);
        y.road(1, 2, 1, 9);
        y.road(2, 3, 1, 9);
        way(y, 0, 3, 0, 0);
        way(y, 1, 3, 0, 2);
        way(y, 1, 3, 6, 3, 4);
        way(y, 3, 0, 0, 0);
        LiquoriceRoads z = new LiquoriceRoads();
        z.road(0, 1, 2, 3);
        z.road(1, 0, 1, 3);
        z.road(0, 1, 1, 4);
        way(z, 0, 1, 0, 1);
        way(z, 1, 0, 4, 2);
        LiquoriceRoads u = new LiquoriceRoads();
        for (int town = 0; town < 7; town++) {
            u.road(town, town + 1, 9, 1);
        }
        way(u, 0, 7, 1, 0, 1, 2, 3, 4, 5, 6);
        way(u, 7, 0, 1, 6, 5, 4, 3, 2, 1, 0);
    }

    private static void p24Widest() {
        says(24, "WIDEST: the greatest number as THICK as which, or more, all ROADS of some way are");
        LiquoriceRoads x = shire();
        due("round is wider than straight", x.widest(0, 2), 8);
        due("the thinnest of three", x.widest(3, 0), 6);
        suckedTo(x, 1, 0);
        due("straight now", x.widest(0, 2), 5);
        suckedTo(x, 2, 0);
        due("all ways have a road of 0", x.widest(0, 2), 0);
        due("no way", x.widest(0, 4), NONE);
        LiquoriceRoads y = new LiquoriceRoads();
        for (int town = 7; town > 0; town--) {
            y.road(town, town - 1, 1, 99);
        }
        due("the greatest", y.widest(0, 7), 99);
        LiquoriceRoads z = new LiquoriceRoads();
        z.road(0, 1, 1, 1);
        due("the least", z.widest(1, 0), 1);
    }

    private static void p25Flow() {
        says(25, "FLOW: how much can go from one TOWN to another one at most, if over each ROAD, either way, as much as it is THICK");
        LiquoriceRoads x = new LiquoriceRoads();
        due("no road", x.flow(0, 7), 0);
        x.road(0, 1, 1, 3);
        x.road(0, 2, 1, 1);
        x.road(1, 3, 1, 1);
        x.road(2, 3, 1, 3);
        due("without the road across", x.flow(0, 3), 2);
        x.road(2, 1, 1, 2);
        due("over the road across", x.flow(0, 3), 4);
        due("and fro", x.flow(3, 0), 4);
        x.road(0, 3, 1, 99);
        due("beside it", x.flow(0, 3), 103);
        due("to a lonely town", x.flow(0, 7), 0);
        LiquoriceRoads y = new LiquoriceRoads();
        for (int road = 0; road < 16; road++) {
            y.road(road % 2, 1 - road % 2, 1, 99);
        }
        due("the most", y.flow(0, 1), 1584);
        suckedTo(y, 15, 0);
        due("a road of 0 is none", y.flow(1, 0), 1485);
    }

    private static void p26Cut() {
        says(26, "A CUT: TOWNS (bits of 0 .. 7), the first one in, the other one not, between which and all others ROADS are together as"
            + " THICK as that; of like ones the lowest set");
        LiquoriceRoads x = new LiquoriceRoads();
        for (int a = 0; a < 8; a++) {
            for (int b = 0; b < 8; b++) {
                if (a != b) {
                    due("without roads the first one alone", x.cut(a, b), 1 << a);
                }
            }
        }
        x.road(0, 1, 1, 3);
        x.road(1, 2, 1, 3);
        due("like ones: the lowest", x.cut(0, 2), 1);
        due("like ones: the lowest of 4 and 6", x.cut(2, 0), 4);
        x.road(0, 1, 1, 1);
        due("one in the middle goes with the first", x.cut(0, 2), 3);
        due("not with the last", x.cut(2, 0), 4);
        x.road(0, 7, 1, 9);
        due("what hangs on the first goes with it", x.cut(0, 2), 1 + 2 + 128);
        due("from the highest", x.cut(7, 2), 1 + 2 + 128);
        due("to the highest", x.cut(2, 7), 4);
    }

    /** A ring 0-1-2 of 1 mile each, of which 0-2 has nothing left, and 3-4 with nothing left. */
    private static LiquoriceRoads worn() {
        LiquoriceRoads x = new LiquoriceRoads();
        x.road(0, 2, 1, 5);
        x.road(0, 1, 2, 5);
        x.road(1, 2, 2, 5);
        x.road(3, 4, 1, 5);
        suckedTo(x, 0, 0);
        suckedTo(x, 3, 0);
        return x;
    }

    private static final String NETS = "NETS are of ROADS of THICK above 0";

    private static void p27NetsOfTree() {
        says(27, NETS);
        LiquoriceRoads x = worn();
        due("27 tree", x.tree(true), 2 + 4);
        due("27 its length", x.tree(false), 4);
        due("28 bridges", x.bridges(), 2 + 4);
        due("31 pieces", x.pieces(), 1);
        due("44 lonely", x.lonely(), 255 - 7);
        due("38 ring", x.ring(0), NONE);
        due("36 colours", x.colours(), 2);
        due("35 watch", x.watch(false), 2);
        suckedTo(x, 1, 1);
        due("thick 1 is of the net", x.tree(true), 2 + 4);
        due("28 a bridge of 1", x.bridges(), 2 + 4);
        due("44 lonely", x.lonely(), 255 - 7);
    }

    private static void p29NetsOfCarter() {
        says(29, NETS);
        LiquoriceRoads x = worn();
        due("29 the roads of 0 needn't be gone, nor can they be", x.carter(0), 8);
        due("29 no road of the net", x.carter(3), NONE);
        due("30 the centre", x.centre(), 1);
        LiquoriceRoads y = new LiquoriceRoads();
        y.road(0, 1, 1, 5);
        suckedTo(y, 0, 1);
        due("29 a road of 1", y.carter(0), 2);
        due("30 a road of 1", y.centre(), 0);
        due("31 a road of 1", y.pieces(), 1);
        due("36 a road of 1", y.colours(), 2);
        due("35 a road of 1", y.watch(true), 1);
        suckedTo(y, 0, 0);
        due("29 a road of 0", y.carter(0), NONE);
        due("30 a road of 0", y.centre(), NONE);
        due("31 a road of 0", y.pieces(), 0);
        due("36 a road of 0", y.colours(), 1);
        due("35 a road of 0", y.watch(true), 0);
        due("28 a road of 0", y.bridges(), 0);
        due("27 a road of 0", y.tree(true) + y.tree(false), 0);
    }

    private static void p37NetsOfLikely() {
        says(37, NETS);
        LiquoriceRoads x = worn();
        due("one road from 0", x.likely(0, 1, 1, true), 1);
        due("surely in 1", x.likely(0, 1, 1, false), 1);
        due("stays in 3", x.likely(3, 3, 3, false), 1);
        due("never in 4", x.likely(3, 3, 4, false), 0);
    }

    private static void p27Tree() {
        says(27, "A TREE: ROADS by LENGTH, like ones by number, each that joins what isn't joined yet");
        LiquoriceRoads x = new LiquoriceRoads();
        due("no road", x.tree(true), 0);
        due("no length", x.tree(false), 0);
        x.road(0, 1, 9, 1);
        due("a road of 9", x.tree(true), 1);
        x.road(1, 0, 9, 1);
        due("like ones: the lower", x.tree(true), 1);
        x.road(0, 1, 8, 1);
        due("the shorter", x.tree(true), 4);
        due("its length", x.tree(false), 8);
        x.road(1, 2, 8, 1);
        x.road(2, 0, 8, 1);
        due("a ring of like ones: not the last", x.tree(true), 4 + 8);
        x.road(6, 7, 1, 1);
        due("another piece", x.tree(true), 4 + 8 + 32);
        due("both lengths", x.tree(false), 17);
        LiquoriceRoads y = new LiquoriceRoads();
        for (int road = 0; road < 9; road++) {
            y.road(0, 1, 9, 9);
        }
        for (int town = 0; town < 7; town++) {
            y.road(town, town + 1, 9, 9);
        }
        due("seven roads, 0-1 by the first, up to road 15", y.tree(true), 1 + (0xffff & ~1023));
        due("63 miles", y.tree(false), 63);
    }

    private static void p28Bridges() {
        says(28, "BRIDGES: ROADS (bits) without which their TOWNS aren't joined");
        LiquoriceRoads x = new LiquoriceRoads();
        due("no road", x.bridges(), 0);
        x.road(0, 1, 1, 1);
        due("one", x.bridges(), 1);
        x.road(1, 0, 9, 9);
        due("two of like towns are none", x.bridges(), 0);
        x.road(1, 2, 1, 1);
        x.road(2, 3, 1, 1);
        due("a tail", x.bridges(), 4 + 8);
        x.road(3, 1, 1, 1);
        due("a ring", x.bridges(), 0);
        for (int road = 5; road < 15; road++) {
            x.road(4, 5, 1, 1);
        }
        x.road(6, 7, 1, 1);
        due("road 15", x.bridges(), 32768);
        LiquoriceRoads y = new LiquoriceRoads();
        for (int town = 0; town < 7; town++) {
            y.road(town, town + 1, 1, 1);
        }
        due("seven", y.bridges(), 127);
        y.road(7, 0, 1, 1);
        due("a ring of eight", y.bridges(), 0);
    }

    private static void p31Pieces() {
        says(31, "PIECES: into how many TOWNS fall that have a ROAD");
        LiquoriceRoads x = new LiquoriceRoads();
        due("none has a road", x.pieces(), 0);
        for (int n = 1; n <= 4; n++) {
            x.road(2 * n - 2, 2 * n - 1, 1, 1);
            due("pairs", x.pieces(), n);
        }
        x.road(1, 2, 1, 1);
        due("two are joined", x.pieces(), 3);
        x.road(7, 0, 1, 1);
        x.road(6, 5, 1, 1);
        due("all are joined", x.pieces(), 1);
        x.road(4, 3, 1, 1);
        due("a ring more", x.pieces(), 1);
    }

    private static final String CARTER = "THE CARTER: from a TOWN over all ROADS once at least, and back: the fewest miles"
        + " (he can't, if the TOWN has no ROAD, or not all ROADS can be come to)";

    private static void p29Carter() {
        says(29, CARTER);
        LiquoriceRoads x = new LiquoriceRoads();
        due("no road at all", x.carter(0), NONE);
        x.road(0, 1, 9, 1);
        due("one road, to and fro", x.carter(0), 18);
        due("from its other town", x.carter(1), 18);
        due("the town has no road", x.carter(2), NONE);
        x.road(1, 0, 1, 1);
        due("two roads make a round", x.carter(0), 10);
        x.road(0, 1, 2, 1);
        due("of three one twice: the shortest", x.carter(1), 13);
        x.road(4, 5, 1, 1);
        due("not all can be come to", x.carter(0), NONE);
        due("nor from the other piece", x.carter(4), NONE);
        x.road(5, 0, 1, 1);
        due("now they can", x.carter(4), 9 + 1 + 2 + 2 + 2 + 1);
        LiquoriceRoads y = new LiquoriceRoads();
        for (int town = 0; town < 8; town++) {
            y.road(town, (town + 1) % 8, 9, 1);
        }
        due("a ring once", y.carter(7), 72);
    }

    /** TOWNS of odd many ROADS, from eight of them down to none: the least that pairs them is gone twice. */
    private static void p29CarterPairs() {
        says(29, CARTER);
        LiquoriceRoads x = new LiquoriceRoads();
        for (int town = 1; town < 8; town++) {
            x.road(0, town, town, 1);
        }
        due("a star of seven: each twice", x.carter(5), 56);
        x.road(1, 2, 9, 1);
        due("1 and 2 are even now", x.carter(0), 28 + 9 + 25);
        x.road(7, 6, 1, 1);
        due("7 and 6 too", x.carter(0), 28 + 9 + 1 + 3 + 4 + 5);
        x.road(3, 4, 1, 1);
        due("3 and 4 too", x.carter(0), 28 + 9 + 1 + 1 + 5);
        LiquoriceRoads y = new LiquoriceRoads();
        y.road(0, 1, 5, 1);
        y.road(1, 2, 5, 1);
        y.road(2, 3, 5, 1);
        y.road(3, 0, 5, 1);
        y.road(0, 2, 8, 1);
        y.road(1, 3, 9, 1);
        due("crossing pairs cost 17, those beside 10", y.carter(3), 37 + 10);
        LiquoriceRoads z = new LiquoriceRoads();
        z.road(0, 1, 9, 1);
        z.road(1, 0, 9, 1);
        z.road(0, 1, 9, 1);
        z.road(0, 2, 1, 1);
        z.road(2, 1, 1, 1);
        due("all are even: each once", z.carter(0), 29);
        z.road(0, 1, 9, 1);
        due("0 and 1 are odd: 2 miles by 2, not 9", z.carter(0), 38 + 2);
        z.road(2, 0, 9, 1);
        due("1 and 2 are odd: 1 mile", z.carter(0), 47 + 1);
    }

    private static void p30Centre() {
        says(30, "THE CENTRE: of TOWNS that have a ROAD the one from which the most MILES (thick 1) to any of its PIECE are least;"
            + " of like ones the lowest; none");
        LiquoriceRoads x = new LiquoriceRoads();
        due("none", x.centre(), NONE);
        x.road(7, 6, 9, 1);
        due("of two the lowest", x.centre(), 6);
        x.road(7, 5, 9, 1);
        due("in the middle", x.centre(), 7);
        x.road(5, 4, 9, 1);
        due("of two in the middle the lowest", x.centre(), 5);
        x.road(0, 1, 9, 1);
        due("its own piece alone counts", x.centre(), 0);
        LiquoriceRoads y = new LiquoriceRoads();
        for (int town = 0; town < 7; town++) {
            y.road(town, town + 1, 9, 9);
        }
        due("of eight in a row", y.centre(), 3);
        LiquoriceRoads u = new LiquoriceRoads();
        u.road(5, 6, 1, 1);
        u.road(6, 7, 9, 1);
        due("7 is the farthest", u.centre(), 6);
        LiquoriceRoads v = new LiquoriceRoads();
        v.road(0, 1, 9, 1);
        v.road(1, 2, 1, 1);
        due("0 is the farthest", v.centre(), 1);
        LiquoriceRoads z = new LiquoriceRoads();
        z.road(1, 2, 3, 5);
        z.road(2, 3, 3, 5);
        z.road(1, 3, 2, 5);
        due("most miles: 3, 3, 3", z.centre(), 1);
        suckedTo(z, 2, 0);
        due("over roads of 1 or more", z.centre(), 2);
    }

    private static void p38Ring() {
        says(38, "A RING: the fewest miles from a TOWN over unlike ROADS back to it; none");
        LiquoriceRoads x = new LiquoriceRoads();
        due("no road", x.ring(0), NONE);
        x.road(0, 1, 9, 1);
        due("one road to and fro is none", x.ring(0), NONE);
        x.road(1, 0, 8, 1);
        due("two of like towns", x.ring(0), 17);
        due("from the other", x.ring(1), 17);
        x.road(1, 2, 1, 1);
        due("a tail has none", x.ring(2), NONE);
        x.road(2, 0, 1, 1);
        due("over three", x.ring(2), 10);
        due("the fewest", x.ring(0), 10);
        x.road(2, 0, 3, 1);
        due("over two is shorter", x.ring(2), 4);
        due("of another town", x.ring(1), 10);
        due("none in 7", x.ring(7), NONE);
        LiquoriceRoads y = new LiquoriceRoads();
        for (int town = 0; town < 8; town++) {
            y.road(town, (town + 1) % 8, 9, 1);
        }
        due("all eight", y.ring(0), 72);
        due("all eight", y.ring(7), 72);
    }

    private static void p35Watched() {
        says(35, "WATCHED: the fewest TOWNS (bits) of which each ROAD of the NET has one; of like ones the lowest set");
        LiquoriceRoads x = new LiquoriceRoads();
        due("no road: none", x.watch(false), 0);
        x.road(7, 6, 1, 1);
        due("of two the lowest", x.watch(false), 64);
        x.road(7, 5, 1, 1);
        due("one for both", x.watch(false), 128);
        x.road(5, 4, 1, 1);
        due("64 + 32, 128 + 16, 128 + 32: the lowest", x.watch(false), 64 + 32);
        LiquoriceRoads y = new LiquoriceRoads();
        for (int a = 0; a < 6; a++) {
            for (int b = 0; b < a; b++) {
                y.road(a, b, 1, 1);
            }
        }
        due("fifteen roads of six towns: the lowest five", y.watch(false), 31);
        y.road(6, 7, 1, 1);
        due("six", y.watch(false), 31 + 64);
        due("how many", y.watch(true), 6);
    }

    private static void p36Colours() {
        says(36, "COLOURS: into how many sets of TOWNS at least all can be put, none with a ROAD inside (1 without ROADS)");
        LiquoriceRoads x = new LiquoriceRoads();
        due("without roads", x.colours(), 1);
        x.road(7, 6, 1, 1);
        due("one road", x.colours(), 2);
        x.road(6, 7, 1, 1);
        due("like towns again", x.colours(), 2);
        x.road(5, 6, 1, 1);
        x.road(5, 7, 1, 1);
        due("three all joined", x.colours(), 3);
        LiquoriceRoads y = new LiquoriceRoads();
        for (int a = 0; a < 6; a++) {
            for (int b = 0; b < a; b++) {
                y.road(a, b, 1, 1);
            }
            due("all joined", y.colours(), a + 1);
        }
        for (int hub = 0; hub < 8; hub++) {
            LiquoriceRoads u = new LiquoriceRoads();
            for (int i = 1; i < 8; i++) {
                u.road(hub, (hub + i) % 8, 1, 1);
            }
            due("one that has all others beside it", u.colours(), 2);
            for (int i = 1; i < 8; i++) {
                u.road((hub + i) % 8, (hub + i % 7 + 1) % 8, 1, 1);
            }
            due("and an odd ring round it", u.colours(), 4);
        }
        LiquoriceRoads z = new LiquoriceRoads();
        for (int town = 0; town < 8; town++) {
            z.road(town, (town + 1) % 8, 1, 1);
        }
        due("an even ring", z.colours(), 2);
        z.road(0, 6, 1, 1);
        due("an odd one in it", z.colours(), 3);
    }
}
