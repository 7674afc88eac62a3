/** Boundary cases of the Terms and of STEPS, a test for each sentence. */
final class EdgesOfTerms extends Edges {
    private EdgesOfTerms() {
    }

    static void run() {
        p01None();
        p02Towns();
        p02Roads();
        p03Goers();
        p03GoersWent();
        p11Coil();
        p19Rain();
        p12DayOfTerms();
        p19X();
        p20BookIsOfThirty();
        p20BookOfTheGreatest();
        p09Gone();
        p09GoneOfNothing();
        p09GoneAtMost();
        p10LaidAnew();
        p11Coiled();
        p12DayRain();
        p12DayGoers();
        p12DayNoDraw();
        p12DaySwells();
        p12DayIsOneMore();
        p15Steps();
        p15StepsWhat();
        p15StepsTold();
        p15NoSteps();
    }

    private static void p01None() {
        says(1, "The constants: `NONE = -1`: None");
        due("NONE", LiquoriceRoads.NONE, -1);
    }

    private static void p02Towns() {
        says(2, "TOWNS 0 .. 7");
        LiquoriceRoads x = new LiquoriceRoads();
        due("from the lowest to the highest", x.road(0, 7, 1, 1), 0);
        due("from the highest to the lowest", x.road(7, 0, 1, 1), 1);
        due("a goer in the lowest", x.goer(0, 1), 0);
        due("a goer in the highest", x.goer(7, 1), 1);
        for (int town : new int[] {-1, 8}) {
            due("no road from " + town, x.road(town, 3, 1, 1), NONE);
            due("no road to " + town, x.road(3, town, 1, 1), NONE);
            due("no goer in " + town, x.goer(town, 1), NONE);
        }
        due("eight towns", new LiquoriceRoads().lonely(), 255);
    }

    private static void p02Roads() {
        says(2, "ROADS 0 .. 15 (told one by one): of two unlike TOWNS, LENGTH 1 .. 9, THICK 1 .. 99 (as told: at first)");
        LiquoriceRoads x = new LiquoriceRoads();
        for (int town = 0; town < 8; town++) {
            due("of one and the same town", x.road(town, town, 1, 1), NONE);
        }
        due("length 0", x.road(0, 1, 0, 1), NONE);
        due("length 10", x.road(0, 1, 10, 1), NONE);
        due("thick 0", x.road(0, 1, 1, 0), NONE);
        due("thick 100", x.road(0, 1, 1, 100), NONE);
        due("the least", x.road(0, 1, 1, 1), 0);
        due("the greatest", x.road(0, 1, 9, 99), 1);
        due("length 1", x.of(0, 2), 1);
        due("length 9", x.of(1, 2), 9);
        due("thick 1 as told", x.of(0, 3), 1);
        due("thick 1 at first", x.of(0, 4), 1);
        due("thick 99 as told", x.of(1, 3), 99);
        due("thick 99 at first", x.of(1, 4), 99);
        for (int road = 2; road < 16; road++) {
            due("one by one", x.road(1, 0, 5, 6), road);
        }
        due("the last is 15", x.of(15, 2), 5);
        due("there is no 16", x.of(16, 2), NONE);
        x.goer(0, 9);
        x.go(0, 1);
        due("sucked", x.of(1, 3), 95);
        due("at first stays as told", x.of(1, 4), 99);
    }

    private static void p03Goers() {
        says(3, "GOERS 0 .. 5 (told one by one): in a TOWN, MOUTH 1 .. 9, how often it went 0 .. 9999 (at first 0)");
        LiquoriceRoads x = new LiquoriceRoads();
        due("mouth 0", x.goer(0, 0), NONE);
        due("mouth 10", x.goer(0, 10), NONE);
        due("mouth 1", x.goer(2, 1), 0);
        due("mouth 9", x.goer(3, 9), 1);
        due("where", x.ofGoer(1, 0), 3);
        due("the least mouth", x.ofGoer(0, 1), 1);
        due("the greatest mouth", x.ofGoer(1, 1), 9);
        due("at first 0", x.ofGoer(0, 2), 0);
        for (int goer = 2; goer < 6; goer++) {
            due("one by one", x.goer(2, 5), goer);
        }
        due("the last is 5", x.ofGoer(5, 1), 5);
        due("there is no 6", x.ofGoer(6, 1), NONE);
    }

    private static void p03GoersWent() {
        says(3, "GOERS 0 .. 5 (told one by one): in a TOWN, MOUTH 1 .. 9, how often it went 0 .. 9999 (at first 0)");
        LiquoriceRoads x = aged(9998);
        due("9998 times", x.ofGoer(0, 2), 9998);
        x.go(0, 0);
        due("9999 times", x.ofGoer(0, 2), 9999);
        x.go(0, 0);
        due("not 10000 times", x.ofGoer(0, 2), 9999);
        x.day(1);
        due("nor by a day", x.ofGoer(0, 2), 9999);
    }

    private static void p11Coil() {
        says(11, "COIL 0 .. 999 (at first 20)");
        LiquoriceRoads x = new LiquoriceRoads();
        due("at first", x.is(3), 20);
        coilTo(x, 999);
        due("beyond", x.coil(1), false);
        due("the greatest", x.is(3), 999);
        LiquoriceRoads y = new LiquoriceRoads();
        y.road(0, 1, 5, 9);
        y.goer(0, 1);
        for (int left = 15; left >= 0; left -= 5) {
            y.go(0, 0);
            due("laid anew", y.relay(0), true);
            due("coil", y.is(3), left);
        }
        y.go(0, 0);
        due("nothing is left", y.relay(0), false);
        due("the least", y.is(3), 0);
        due("and up again", y.coil(1), true);
        due("one", y.is(3), 1);
    }

    private static void p19Rain() {
        says(19, "RAIN 0, 1 (at first 0)");
        LiquoriceRoads x = new LiquoriceRoads();
        due("at first", x.is(2), 0);
        boolean wet = false;
        boolean dry = false;
        for (int i = 0; i < 60; i++) {
            x.day(1);
            wet |= x.is(2) == 1;
            dry |= x.is(2) == 0;
            due("0 or 1", x.is(2) == 0 || x.is(2) == 1, true);
        }
        due("both", wet && dry, true);
    }

    private static void p12DayOfTerms() {
        says(12, "DAY 0 .. 9999 (at first 0)");
        due("at first", new LiquoriceRoads().is(0), 0);
        LiquoriceRoads x = aged(9998);
        due("one more", x.day(1), 1);
        due("the last", x.is(0), 9999);
        due("none behind it", x.day(1), NONE);
        due("the last still", x.is(0), 9999);
    }

    private static void p19X() {
        says(19, "X: at first 283");
        due("X", new LiquoriceRoads().is(1), 283);
    }

    /** The k-th going sucks k mod 3. */
    private static void p20BookIsOfThirty() {
        says(20, "BOOK (the latest 30 goings): DAY, GOER, ROAD, how much was sucked");
        LiquoriceRoads x = ruled("sucks went-went/3*3;");
        x.road(0, 1, 1, 99);
        x.goer(0, 1);
        due("empty", x.book(NONE, 0), 0);
        for (int k = 0; k < 29; k++) {
            x.go(0, 0);
        }
        due("29", x.book(NONE, 0), 29);
        x.go(0, 0);
        due("30", x.book(NONE, 0), 30);
        due("the eldest is the first", x.book(0, 3), 0);
        due("the latest is the 30th", x.book(29, 3), 2);
        x.go(0, 0);
        due("30 at most", x.book(NONE, 0), 30);
        due("the eldest is the second", x.book(0, 3), 1);
        due("the latest is the 31st", x.book(29, 3), 0);
        due("nothing behind it", x.book(30, 3), -2);
        x.undo();
        due("the first is there again", x.book(0, 3), 0);
        due("30 as ahead of it", x.book(29, 3), 2);
        for (int k = 30; k < 75; k++) {
            x.go(0, 0);
        }
        due("the eldest of 75", x.book(0, 3), 45 % 3);
        due("the second of 75", x.book(1, 3), 46 % 3);
        due("the latest of 75", x.book(29, 3), 74 % 3);
    }

    private static void p20BookOfTheGreatest() {
        says(20, "BOOK (the latest 30 goings): DAY, GOER, ROAD, how much was sucked");
        LiquoriceRoads x = ruled("sucks 0;");
        for (int road = 0; road < 16; road++) {
            x.road(0, 1, 1, 99);
        }
        for (int i = 0; i < 167; i++) {
            x.day(i < 166 ? 60 : 39);
        }
        for (int goer = 0; goer < 6; goer++) {
            x.goer(0, 1);
        }
        rule(x, "sucks 99;");
        x.go(5, 15);
        due("day 9999", x.book(0, 0), 9999);
        due("goer 5", x.book(0, 1), 5);
        due("road 15", x.book(0, 2), 15);
        due("sucked 99", x.book(0, 3), 99);
        x.by(0);
        x.go(0, 0);
        due("goer 0", x.book(1, 1), 0);
        due("road 0", x.book(1, 2), 0);
        due("sucked 0", x.book(1, 3), 0);
    }

    private static final String GONE = "GONE: a GOER over a ROAD of the TOWN where it is, that is as THICK as sucks says, or more:"
        + " the ROAD is less THICK by that; the GOER is in the other TOWN, went once more (9999 at most); written down";

    private static void p09Gone() {
        says(9, GONE);
        LiquoriceRoads x = ruled("sucks 5;");
        x.road(3, 4, 1, 4);
        x.road(3, 4, 1, 5);
        x.road(4, 3, 1, 6);
        x.road(4, 5, 1, 99);
        x.goer(3, 1);
        String before = state(x);
        due("one less thick than sucks says", x.go(0, 0), NONE);
        due("not of its town", x.go(0, 3), NONE);
        unchanged(x, before);
        due("as thick", x.go(0, 1), 4);
        due("nothing is left", x.of(1, 3), 0);
        due("the others stay", x.of(0, 3) + x.of(2, 3) + x.of(3, 3), 4 + 6 + 99);
        due("in the other town", x.ofGoer(0, 0), 4);
        due("went once", x.ofGoer(0, 2), 1);
        due("written down", x.book(NONE, 0), 1);
        due("one more thick, from the first town", x.go(0, 2), 3);
        due("one is left", x.of(2, 3), 1);
        due("went twice", x.ofGoer(0, 2), 2);
        due("written down", x.book(1, 3), 5);
        due("too thin now", x.go(0, 1), NONE);
        due("not of its town any more", x.go(0, 3), NONE);
    }

    private static void p09GoneOfNothing() {
        says(9, GONE);
        LiquoriceRoads x = ruled("sucks thick;");
        x.road(0, 1, 1, 1);
        x.goer(1, 1);
        due("all of it", x.go(0, 0), 0);
        due("0 of 0", x.go(0, 0), 1);
        due("not below 0", x.of(0, 3), 0);
        due("written down with 0", x.book(1, 3), 0);
        x.by(NONE);
        due("1 of 0", x.go(0, 0), NONE);
    }

    private static void p09GoneAtMost() {
        says(9, GONE);
        LiquoriceRoads x = aged(9999);
        due("it went 9999 times", x.ofGoer(0, 2), 9999);
        int other = 1 - x.ofGoer(0, 0);
        due("it can go on", x.go(0, 0), other);
        due("9999 at most", x.ofGoer(0, 2), 9999);
    }

    private static void p10LaidAnew() {
        says(10, "LAID ANEW: a ROAD that is less THICK than at first: it is so again, COIL is less by its LENGTH (it must have as much)");
        LiquoriceRoads x = ruled("sucks 1;");
        x.road(0, 1, 9, 9);
        x.road(0, 1, 3, 9);
        x.goer(0, 1);
        String before = state(x);
        due("as thick as at first", x.relay(0), false);
        unchanged(x, before);
        x.go(0, 0);
        due("one less", x.relay(0), true);
        due("as at first again", x.of(0, 3), 9);
        due("coil is less by 9", x.is(3), 11);
        x.go(0, 0);
        due("from 11", x.relay(0), true);
        x.go(0, 1);
        before = state(x);
        due("it has 2, and must have 3", x.relay(1), false);
        unchanged(x, before);
        x.coil(1);
        due("it has 3", x.relay(1), true);
        due("nothing is left", x.is(3), 0);
        due("as at first", x.of(1, 3), 9);
    }

    private static void p11Coiled() {
        says(11, "COILED: COIL is more");
        LiquoriceRoads x = new LiquoriceRoads();
        x.coil(1);
        due("by 1", x.is(3), 21);
        x.coil(99);
        due("by 99", x.is(3), 120);
    }

    private static void p12DayRain() {
        says(12, "A DAY: a draw by 10 (X mod 10, X being (X * 547 + 421) mod 30727 then): below 3 it is RAIN, else not");
        LiquoriceRoads x = new LiquoriceRoads();
        int drawn = 283;
        int seen = 0;
        for (int i = 0; i < 80; i++) {
            int rest = drawn % 10;
            seen |= 1 << rest;
            x.day(1);
            due("rain of " + rest, x.is(2), rest < 3 ? 1 : 0);
            drawn = drawn(drawn);
            due("X", x.is(1), drawn);
        }
        due("each of 0 to 9 was drawn", seen, 1023);
    }

    /** 283: no rain; 1587 mod 3 = 0: GOER 0 by the first of 0, 2, 3; 8154 mod 2 = 0: GOER 2 by the first of 4, 5. */
    private static void p12DayGoers() {
        says(12, "GOERS by number: of ROADS it can go, by number, one by a draw by how many there are: it goes; none: no draw");
        LiquoriceRoads x = new LiquoriceRoads();
        x.road(0, 1, 1, 9);
        x.road(2, 3, 1, 9);
        x.road(3, 0, 1, 9);
        x.road(0, 2, 1, 9);
        x.road(6, 5, 1, 9);
        x.road(5, 7, 1, 9);
        x.goer(0, 3);
        x.goer(4, 3);
        x.goer(5, 3);
        due("two go", x.day(1), 2);
        due("goer 0 first", x.book(0, 1), 0);
        due("by the first road", x.book(0, 2), 0);
        due("then goer 2", x.book(1, 1), 2);
        due("by the first of two", x.book(1, 2), 4);
        due("goer 1 stays", x.ofGoer(1, 0), 4);
        due("three draws: 283, 1587, 8154", x.is(1), 5244);
        // 5244; 11278 mod 1: GOER 0 from 1 by ROAD 0; 24087 mod 1: GOER 2 from 6 by ROAD 4
        due("two go again", x.day(1), 2);
        due("one road alone: a draw by 1", x.is(1), drawn(drawn(drawn(5244))));
        // 24854: 4, no rain; mod 3 of the next tells the road, which must be the one of that place
        int next = drawn(24854);
        x.day(1);
        due("by place among those it can go", x.book(4, 2), new int[] {0, 2, 3}[next % 3]);
    }

    private static void p12DayNoDraw() {
        says(12, "GOERS by number: of ROADS it can go, by number, one by a draw by how many there are: it goes; none: no draw");
        LiquoriceRoads x = ruled("sucks 5;");
        x.road(0, 1, 1, 9);
        x.goer(0, 1);
        x.goer(0, 1);
        due("the second finds it too thin", x.day(1), 1);
        due("goer 0 goes", x.book(0, 1), 0);
        due("a draw for rain, one for goer 0", x.is(1), drawn(drawn(283)));
        due("nobody can go", x.day(1), 0);
        due("a draw for rain alone", x.is(1), drawn(drawn(drawn(283))));
        LiquoriceRoads y = new LiquoriceRoads();
        due("nobody is there", y.day(1), 0);
        due("a draw for rain alone", y.is(1), drawn(283));
    }

    private static void p12DaySwells() {
        says(12, "Then ROADS by number are more THICK by swells (as at first at most)");
        for (int left = 5; left <= 9; left++) {
            LiquoriceRoads x = swelling(left);
            x.day(1);
            due("from " + left + " by 3, 9 at most", x.of(0, 3), Math.min(9, left + 3));
        }
        LiquoriceRoads y = ruled("sucks 6;swells if way=0 then 2 else roads 0 end;");
        y.road(0, 1, 1, 9);
        y.road(2, 3, 1, 99);
        y.road(4, 5, 1, 20);
        y.goer(0, 1);
        y.goer(4, 1);
        y.day(1);
        due("road 0 first: 3 and 2", y.of(0, 3), 5);
        due("road 1 has 99 and no more", y.of(1, 3), 99);
        due("road 2 by what road 0 is by then: 14 and 5", y.of(2, 3), 19);
        LiquoriceRoads z = ruled("sucks 6;swells if way=1 then 2 else roads 1 end;");
        z.road(0, 1, 1, 9);
        z.road(2, 3, 1, 9);
        z.goer(0, 1);
        z.goer(2, 1);
        z.day(1);
        due("road 0 by what road 1 is ahead of its swelling", z.of(0, 3), 6);
        due("then road 1", z.of(1, 3), 5);
    }

    /** A ROAD of 9 at first that has so much left, and nobody who can go; it swells by 3. */
    private static LiquoriceRoads swelling(int left) {
        LiquoriceRoads x = ruled("sucks 99;swells 3;");
        x.road(0, 1, 1, 9);
        suckedTo(x, 0, left);
        x.by(0);
        return x;
    }

    private static void p12DayIsOneMore() {
        says(12, "DAY is one more (at 9999 none can pass)");
        LiquoriceRoads x = small();
        x.day(1);
        due("one", x.is(0), 1);
        x.day(2);
        due("three", x.is(0), 3);
        LiquoriceRoads y = aged(9999);
        String before = state(y);
        due("by hand", y.day(1), NONE);
        due("by hand, many", y.day(60), NONE);
        unchanged(y, before);
        Tapes.text(y, "day 1;");
        due("by a script", y.played(1), 0);
        due("by draws", y.years(1, 40), 9999);
        due("none passed", y.is(0), 9999);
    }

    private static final String STEPS = "STEPS: GONE, LAID ANEW, COILED, a DAY (each), YEARS (see V): the latest 30 can be taken back,"
        + " the latest first (THICK, where GOERS are, how often they went, COIL, RAIN, DAY, X, BOOK are as ahead of it;"
        + " ROADS, GOERS told since are as told)";

    private static void p15Steps() {
        says(15, STEPS);
        LiquoriceRoads x = small();
        x.go(0, 0);
        due("gone is one", x.about(4), 1);
        x.relay(0);
        due("laid anew is one", x.about(4), 2);
        x.coil(1);
        due("coiled is one", x.about(4), 3);
        x.day(2);
        due("two days are two", x.about(4), 5);
        x.years(7, 40);
        due("years are one", x.about(4), 6);
        LiquoriceRoads y = new LiquoriceRoads();
        for (int i = 1; i <= 31; i++) {
            y.coil(i);
            due("30 at most", y.about(4), Math.min(30, i));
        }
        int coil = 20 + 31 * 32 / 2;
        for (int i = 31; i >= 2; i--) {
            coil -= i;
            due("the latest first", y.undo(), i - 2);
            due("coil", y.is(3), coil);
        }
        due("the 31st can't be", y.undo(), NONE);
        due("it stays", y.is(3), 21);
    }

    private static void p15StepsWhat() {
        says(15, STEPS);
        LiquoriceRoads x = ruled("sucks 1+rain+way;swells rain*2;");
        x.road(0, 1, 1, 9);
        x.road(1, 2, 2, 19);
        x.goer(0, 1);
        x.goer(2, 1);
        x.day(3);
        String[] states = new String[6];
        for (int i = 0; i < 6; i++) {
            states[i] = state(x);
            due("step " + i + " is done", takesStep(x, i), true);
        }
        due("all of them", x.about(4), 9);
        for (int i = 5; i >= 0; i--) {
            x.undo();
            unchanged(x, states[i]);
        }
    }

    /** A DAY, YEARS, COILED, GONE, LAID ANEW where it went, and a DAY again. */
    private static boolean takesStep(LiquoriceRoads x, int which) {
        switch (which) {
            case 1: return x.years(1111, 9) >= 0;
            case 2: return x.coil(3);
            case 3: return x.go(0, Integer.numberOfTrailingZeros(x.ofGoer(0, 3))) >= 0;
            case 4: return x.relay(x.book(x.book(NONE, 0) - 1, 2));
            default: return x.day(1) > 0;
        }
    }

    private static void p15StepsTold() {
        says(15, STEPS);
        LiquoriceRoads x = small();
        x.go(0, 0);
        x.road(1, 2, 3, 7);
        x.goer(1, 6);
        x.go(1, 1);
        x.day(1);
        x.years(3, 20);
        due("four", x.about(4), 4);
        x.undo();
        x.undo();
        x.undo();
        due("road 1 as told", x.of(1, 3), 7);
        due("goer 1 as told", x.ofGoer(1, 0), 1);
        due("it never went", x.ofGoer(1, 2), 0);
        due("none yet", x.undo(), 0);
        due("road 1 stays told", x.of(1, 3), 7);
        due("goer 1 stays told", x.ofGoer(1, 0), 1);
        due("road 0 as ahead", x.of(0, 3), 9);
        due("goer 0 as ahead", x.ofGoer(0, 0), 0);
        due("two roads", x.about(0), 2);
        due("two goers", x.about(1), 2);
        LiquoriceRoads y = small();
        y.image();
        y.road(1, 2, 3, 7);
        y.goer(1, 6);
        y.go(1, 1);
        y.back();
        y.coil(1);
        y.road(1, 2, 3, 5);
        y.goer(1, 6);
        due("one step, ahead of which others were there", y.undo(), 0);
        due("road 1 as told since", y.of(1, 3), 5);
        due("goer 1 as told since", y.ofGoer(1, 0), 1);
        due("it never went", y.ofGoer(1, 2), 0);
    }

    private static void p15NoSteps() {
        says(15, STEPS);
        LiquoriceRoads x = small();
        Tapes.text(x, "sucks 1;road 1 to 2 long 1 thick 1;goer 0 mouth 1;");
        x.by(0);
        x.said(0, 0, 1);
        x.played(0);
        x.image();
        x.back();
        due("what is told is none", x.about(4), 0);
        x.go(0, 1);
        x.go(9, 0);
        x.relay(0);
        x.coil(0);
        x.day(0);
        x.years(-1, 1);
        x.undo();
        due("what is refused is none", x.about(4), 0);
        x.foretold(9, 0, 0);
        x.times(0, 0);
        x.crowd(0, NONE);
        due("what is asked is none", x.about(4), 0);
    }
}
