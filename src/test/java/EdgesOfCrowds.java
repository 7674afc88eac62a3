/** Boundary cases of section IV, what many do at ROADS, a test for each sentence. */
final class EdgesOfCrowds extends Edges {
    private EdgesOfCrowds() {
    }

    static void run() {
        p32Times();
        p32TimesAsThen();
        p33Crowd();
        p33CrowdOrder();
        p34Who();
        p34WhoAsNow();
        p37Likely();
        p37LikelyMost();
        p37LikelyOfTheHighest();
        p39Stranded();
        p40Said();
        p41Whose();
        p42Thinnest();
        p43Busiest();
        p44Lonely();
        p45Ledger();
    }

    private static final String TIMES = "TIMES: how often a GOER could go a ROAD to and fro now, one time behind the other,"
        + " sucks being as then (99 at most; where it is aside, how often it went being as now)";

    private static void times(String sucks, int thick, int want) {
        LiquoriceRoads x = ruled("sucks " + sucks + ";");
        x.road(0, 1, 1, thick);
        x.goer(7, 1);
        due("times of " + thick + " by " + sucks, x.times(0, 0), want);
        due("thick stays", x.of(0, 3), thick);
    }

    private static void p32Times() {
        says(32, TIMES);
        times("1", 98, 98);
        times("1", 99, 99);
        times("0", 1, 99);
        times("0", 99, 99);
        times("3", 2, 0);
        times("3", 3, 1);
        times("3", 5, 1);
        times("3", 6, 2);
        times("99", 99, 1);
        times("99", 98, 0);
        LiquoriceRoads x = new LiquoriceRoads();
        x.road(0, 1, 1, 5);
        suckedTo(x, 0, 0);
        due("1 of 0", x.times(0, 0), 0);
        rule(x, "sucks 0;");
        due("0 of 0", x.times(0, 0), 99);
    }

    private static void p32TimesAsThen() {
        says(32, TIMES);
        times("thick", 50, 99);
        times("(thick+1)/2", 20, 99);
        times("thick/2+1", 20, 4);
        times("if roads 0=9 then 10 else 1 end", 9, 0);
        times("if roads 0<9 then 10 else 1 end", 9, 1);
        times("if thick=8 then 9 else 1 end", 20, 12);
        LiquoriceRoads x = ruled("sucks 1+went;");
        x.road(0, 1, 1, 9);
        x.road(2, 3, 1, 9);
        x.goer(0, 1);
        due("it went 0 times, each time", x.times(0, 0), 9);
        x.go(0, 0);
        x.go(0, 0);
        due("it went 2 times, each time: 6 by 3", x.times(0, 0), 2);
        due("where it isn't: 9 by 3", x.times(0, 1), 3);
    }

    private static final String CROWD = "A CROWD: of all GOERS, wherever they are, as many as can be in some order one behind the other"
        + " over a ROAD now (how often they went being as now): of like ones the lowest first GOER, then the next, ..";

    private static void crowd(LiquoriceRoads x, int road, int... want) {
        due("how many", x.crowd(road, NONE), want.length);
        for (int i = 0; i < want.length; i++) {
            due("goer " + i + " of the crowd", x.crowd(road, i), want[i]);
        }
        due("no more", x.crowd(road, want.length), -2);
    }

    private static void p33Crowd() {
        says(33, CROWD);
        LiquoriceRoads x = ruled("sucks 1+who;");
        x.road(0, 1, 1, 21);
        x.road(0, 1, 1, 20);
        x.road(0, 1, 1, 1);
        x.road(0, 1, 1, 5);
        crowd(x, 0);
        for (int goer = 0; goer < 6; goer++) {
            x.goer(7 - goer, 1);
        }
        crowd(x, 0, 0, 1, 2, 3, 4, 5);
        crowd(x, 1, 0, 1, 2, 3, 4);
        crowd(x, 2, 0);
        crowd(x, 3, 0, 1);
        rule(x, "sucks 6-who;");
        crowd(x, 0, 0, 1, 2, 3, 4, 5);
        crowd(x, 2, 5);
        crowd(x, 3, 2, 5);
        rule(x, "sucks 22;");
        crowd(x, 0);
        rule(x, "sucks 0;");
        crowd(x, 2, 0, 1, 2, 3, 4, 5);
    }

    private static void p33CrowdOrder() {
        says(33, CROWD);
        LiquoriceRoads x = ruled("sucks if who=2 then 5 else if thick>5 then 7 else 2 end end;");
        x.road(0, 1, 1, 9);
        x.goer(0, 1);
        x.goer(0, 1);
        x.goer(0, 1);
        crowd(x, 0, 2, 0, 1);
        // 9 - 3 - 6 by 1 ahead of 0; 0 first takes all
        LiquoriceRoads y = ruled("sucks if who=0 then thick else 3 end;");
        y.road(0, 1, 1, 9);
        y.goer(0, 1);
        y.goer(0, 1);
        y.goer(0, 1);
        crowd(y, 0, 1, 2, 0);
        LiquoriceRoads u = ruled("sucks if who=0 then 99 else 0 end;");
        u.road(0, 1, 1, 99);
        u.goer(0, 1);
        u.goer(0, 1);
        crowd(u, 0, 0, 1);
        LiquoriceRoads z = ruled("sucks 2+went;");
        z.road(0, 1, 1, 12);
        z.goer(0, 1);
        z.goer(0, 1);
        z.goer(0, 1);
        z.go(0, 0);
        z.go(0, 0);
        // 12 - 2 - 3 = 7: 4 + 2 is 6, with all it is 8; it went as now each time
        crowd(z, 0, 0, 1);
        z.undo();
        crowd(z, 0, 0, 1, 2);
    }

    private static final String WHO = "WHO WENT over a ROAD: in how many ways all GOERS, each 0 to 3 times, suck together as much as it was"
        + " more THICK in THE IMAGE (it was there already) than it is now, each by sucks as now with the ROAD as THICK as in THE IMAGE";

    private static void p34Who() {
        says(34, WHO);
        LiquoriceRoads x = new LiquoriceRoads();
        x.road(0, 1, 1, 9);
        x.image();
        due("without goers, as thick: one way", x.who(0), 1);
        x.road(0, 1, 1, 9);
        due("it wasn't there yet", x.who(1), NONE);
        x.goer(0, 1);
        int[] want = {1, 1, 1, 1, 0};
        for (int less = 0; less <= 4; less++) {
            due("0 to 3 times: less by " + less, x.who(0), want[less]);
            x.go(0, 0);
        }
        x.image();
        due("there now", x.who(1), 1);
        due("as thick as in the new one", x.who(0), 1);
        x.relay(0);
        due("thicker than in the image", x.who(0), 0);
        x.go(0, 0);
        x.image();
        x.relay(0);
        due("thicker by 1", x.who(0), 0);
        LiquoriceRoads z = ruled("sucks 33;");
        z.road(0, 1, 1, 99);
        z.goer(0, 1);
        z.image();
        for (int times = 1; times <= 3; times++) {
            z.go(0, 0);
            due("33 each", z.who(0), 1);
        }
        due("99 in all", z.of(0, 3), 0);
        z.goer(0, 1);
        due("99 by two: 3 + 0, 2 + 1, 1 + 2, 0 + 3", z.who(0), 4);
        LiquoriceRoads y = ruled("sucks 0;");
        y.road(0, 1, 1, 9);
        y.image();
        for (int goer = 0; goer < 6; goer++) {
            due("4 ways each, of nothing", y.who(0), 1L << 2 * goer);
            y.goer(0, 1);
        }
        due("six goers", y.who(0), 4096);
        rule(y, "sucks 1;");
        int[] ways = {1, 6, 21, 56, 120, 216};
        for (int less = 0; less < 6; less++) {
            due("six goers, less by " + less, y.who(0), ways[less]);
            y.go(0, 0);
        }
    }

    private static void p34WhoAsNow() {
        says(34, WHO);
        LiquoriceRoads x = ruled("sucks thick-roads 1+went;");
        x.road(0, 1, 1, 9);
        x.road(2, 3, 1, 8);
        x.goer(0, 1);
        x.goer(2, 1);
        x.image();
        x.go(0, 0);
        // now 1 less: with 9 as in the image GOER 0 (went 1) sucks 2, GOER 1 sucks 1
        due("as thick as in the image, went as now", x.who(0), 1);
        due("thick is as it is", x.of(0, 3), 8);
        x.go(0, 0);
        due("sucked 1", x.book(1, 3), 1);
        // 2 less: 3 by GOER 0, 1 by GOER 1: two times GOER 1
        due("went twice", x.who(0), 1);
        rule(x, "sucks 2*who+roads 0-8;");
        // roads 0 is 9 as in the image: 1 by GOER 0, 3 by GOER 1; 2 less: two times GOER 0
        due("by the text of now, roads too", x.who(0), 1);
        rule(x, "sucks 3;");
        due("no way", x.who(0), 0);
        rule(x, "sucks 99;");
        due("99 thrice is far too much", x.who(0), 0);
        due("as thick: nobody went", x.who(1), 1);
    }

    private static final String LIKELY = "LIKELY: from a TOWN one goes n times by any of its ROADS of the NET, all alike (stays, if there is"
        + " none): how likely one is in a TOWN then, in lowest terms";

    private static void likely(LiquoriceRoads x, int town, int n, int to, long up, long low) {
        due("upper " + town + " " + n + " " + to, x.likely(town, n, to, false), up);
        due("lower " + town + " " + n + " " + to, x.likely(town, n, to, true), low);
    }

    private static void p37Likely() {
        says(37, LIKELY);
        LiquoriceRoads x = new LiquoriceRoads();
        for (int n = 0; n <= 3; n++) {
            likely(x, 7, n, 7, 1, 1);
            likely(x, 7, n, 6, 0, 1);
        }
        x.road(0, 1, 1, 1);
        for (int n = 0; n <= 3; n++) {
            likely(x, 0, n, n % 2, 1, 1);
            likely(x, 0, n, 1 - n % 2, 0, 1);
        }
        x.road(0, 1, 9, 9);
        likely(x, 0, 1, 1, 1, 1);
        x.road(2, 0, 1, 1);
        likely(x, 0, 1, 1, 2, 3);
        likely(x, 0, 1, 2, 1, 3);
        likely(x, 1, 2, 1, 2, 3);
        likely(x, 1, 3, 0, 1, 1);
        x.road(1, 3, 1, 1);
        // 0-1 by half of 1's way back: 2/3 of 2/3, and 1/3 of all
        likely(x, 0, 2, 0, 7, 9);
        likely(x, 0, 2, 3, 2, 9);
        likely(x, 0, 3, 1, 20, 27);
    }

    private static void p37LikelyOfTheHighest() {
        says(37, LIKELY);
        LiquoriceRoads x = new LiquoriceRoads();
        for (int town = 4; town < 7; town++) {
            x.road(7, town, 1, 1);
        }
        likely(x, 7, 1, 6, 1, 3);
        likely(x, 4, 2, 6, 1, 3);
        LiquoriceRoads y = new LiquoriceRoads();
        for (int town = 1; town < 6; town++) {
            y.road(town, 0, 1, 1);
        }
        likely(y, 0, 1, 5, 1, 5);
        likely(y, 1, 2, 5, 1, 5);
    }

    /** TOWNS of 5, 4, 7, 3, 1 and 6 ROADS, so that the lower ones are great and can be made less. */
    private static void p37LikelyMost() {
        says(37, LIKELY);
        LiquoriceRoads x = new LiquoriceRoads();
        int[] many = {5, 4, 7};
        // 0-1 twice; 0, 1, 2 have 5, 4 and 7 ROADS
        x.road(0, 1, 1, 1);
        x.road(0, 1, 1, 1);
        x.road(1, 2, 1, 1);
        for (int town = 0; town < 3; town++) {
            int has = new int[] {2, 3, 1}[town];
            for (int i = has; i < many[town]; i++) {
                x.road(town, 3 + town, 1, 1);
            }
        }
        likely(x, 0, 1, 1, 2, 5);
        likely(x, 0, 2, 2, 1, 10);
        likely(x, 0, 3, 5, 3, 35);
        likely(x, 2, 2, 0, 1, 14);
        likely(x, 2, 3, 0, 0, 1);
        likely(x, 0, 3, 0, 0, 1);
        // back in 1 by 0 (2/4 of 2/5), by 2 (1/4 of 1/7), by 4 (1/4): 1/5 + 1/28 + 1/4 is 17/35
        likely(x, 1, 2, 1, 17, 35);
        // 2/5 of that, and 2/5 of 3/5 by 3
        likely(x, 0, 3, 1, 76, 175);
    }

    private static void p39Stranded() {
        says(39, "STRANDED: GOERS (bits) that can go no ROAD");
        LiquoriceRoads x = ruled("sucks 5+who;");
        due("nobody", x.stranded(), 0);
        for (int goer = 0; goer < 6; goer++) {
            x.goer(0, 1);
        }
        due("no road: all", x.stranded(), 63);
        x.road(1, 2, 1, 99);
        due("none of their town: all", x.stranded(), 63);
        x.road(1, 0, 1, 4);
        due("too thin by one: all", x.stranded(), 63);
        x.road(0, 1, 1, 5);
        due("as thick: not goer 0", x.stranded(), 62);
        x.road(0, 7, 1, 10);
        due("as thick for all", x.stranded(), 0);
    }

    private static final String WHOSE = "WHOSE LAW (told: SAID, 8 at most: a GOER, a ROAD, sucks 0 .. 99): TEXTS (bits) by whose sucks all"
        + " are so (as now)";

    private static void p40Said() {
        says(40, WHOSE);
        LiquoriceRoads x = small();
        due("sucks -1", x.said(0, 0, -1), -2);
        due("sucks 100", x.said(0, 0, 100), -2);
        due("sucks 0", x.said(0, 0, 0), 1);
        due("sucks 99", x.said(0, 0, 99), 2);
        for (int n = 3; n <= 8; n++) {
            due("one more", x.said(0, 0, 2), n);
        }
        due("8 at most", x.said(0, 0, 2), -2);
        due("8", x.about(5), 8);
    }

    private static void p41Whose() {
        says(41, WHOSE);
        LiquoriceRoads x = shire();
        x.goer(0, 5);
        x.goer(4, 9);
        due("no text", x.whose(), 0);
        String[] texts = {"sucks 2;", "sucks 2+went;", "swells 1;", "sucks 2+who;"};
        for (int text = 0; text < 4; text++) {
            Tapes.text(x, texts[text]);
            due("nothing said: all there are", x.whose(), (2 << text) - 1);
        }
        x.said(0, 0, 2);
        due("all, without sucks as well", x.whose(), 15);
        x.by(3);
        due("whatever rules", x.whose(), 15);
        x.go(0, 0);
        due("as now", x.whose(), 13);
        for (int n = 2; n <= 7; n++) {
            x.said(0, n % 5, 2);
        }
        due("seven", x.whose(), 13);
        x.said(1, 3, 3);
        due("the eighth too", x.whose(), 8);
        x.said(NONE, 0, 0);
        due("none said any more", x.whose(), 15);
        x.said(1, 4, 4);
        due("1 and a third of 9", x.whose(), 4);
        x.said(1, 4, 5);
        due("none", x.whose(), 0);
        LiquoriceRoads z = shire();
        z.goer(0, 5);
        z.goer(4, 9);
        Tapes.text(z, "sucks 10*who+way;");
        Tapes.text(z, "sucks 11;");
        z.said(1, 1, 11);
        due("of that goer and that road", z.whose(), 3);
        z.said(1, 4, 14);
        due("of another road", z.whose(), 1);
        z.said(0, 4, 4);
        due("of another goer", z.whose(), 1);
        z.said(0, 4, 5);
        due("none", z.whose(), 0);
        LiquoriceRoads y = small();
        Tapes.text(y, "sucks -5;");
        Tapes.text(y, "sucks 500;");
        y.said(0, 0, 0);
        due("0 at least", y.whose(), 1);
        y.said(NONE, 0, 0);
        y.said(0, 0, 99);
        due("99 at most", y.whose(), 2);
    }

    private static void p42Thinnest() {
        says(42, "THINNEST: the ROAD of least THICK; of like ones the lowest; none");
        LiquoriceRoads x = new LiquoriceRoads();
        due("none", x.thinnest(), NONE);
        x.road(0, 1, 1, 99);
        due("one", x.thinnest(), 0);
        x.road(0, 1, 1, 99);
        due("of like ones the lowest", x.thinnest(), 0);
        x.road(0, 1, 1, 98);
        due("less by one", x.thinnest(), 2);
        for (int road = 3; road < 16; road++) {
            x.road(0, 1, 1, 98);
        }
        due("of many like ones the lowest", x.thinnest(), 2);
        suckedTo(x, 15, 0);
        due("one of 0 is one", x.thinnest(), 15);
        suckedTo(x, 14, 0);
        due("of two of 0 the lowest", x.thinnest(), 14);
    }

    private static void p43Busiest() {
        says(43, "BUSIEST: the GOER that went most often (above 0); of like ones the lowest; none");
        LiquoriceRoads x = ruled("sucks 0;");
        due("nobody there", x.busiest(), NONE);
        x.road(0, 1, 1, 1);
        for (int goer = 0; goer < 6; goer++) {
            x.goer(0, 1);
        }
        due("0 times is none", x.busiest(), NONE);
        x.go(5, 0);
        due("once", x.busiest(), 5);
        x.go(3, 0);
        due("of like ones the lowest", x.busiest(), 3);
        x.go(5, 0);
        due("more often", x.busiest(), 5);
        x.undo();
        x.undo();
        x.undo();
        due("none went", x.busiest(), NONE);
    }

    private static void p44Lonely() {
        says(44, "LONELY: TOWNS (bits) with no ROAD of the NET");
        LiquoriceRoads x = new LiquoriceRoads();
        due("all", x.lonely(), 255);
        for (int town = 0; town < 7; town += 2) {
            x.road(town + 1, town, 1, 2);
            due("two less", x.lonely(), 255 & ~((4 << town) - 1));
        }
        suckedTo(x, 3, 1);
        due("a road of 1", x.lonely(), 0);
        suckedTo(x, 3, 0);
        due("a road of 0", x.lonely(), 64 + 128);
    }

    private static void p45Ledger() {
        says(45, "BY THE BOOK: how much a GOER sucked (NONE: all)");
        LiquoriceRoads x = ruled("sucks 1+who*3;");
        x.road(0, 1, 1, 99);
        x.goer(0, 1);
        x.goer(0, 1);
        due("nothing", x.ledger(NONE), 0);
        due("nothing", x.ledger(1), 0);
        x.go(1, 0);
        for (int i = 0; i < 29; i++) {
            x.go(0, 0);
        }
        due("thirty goings", x.ledger(NONE), 33);
        due("goer 0", x.ledger(0), 29);
        due("goer 1", x.ledger(1), 4);
        x.go(0, 0);
        due("its going is no more in the book", x.ledger(1), 0);
        due("the latest thirty", x.ledger(0), 30);
        due("all", x.ledger(NONE), 30);
    }
}
