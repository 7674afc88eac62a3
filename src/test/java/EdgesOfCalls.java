/** Boundary cases of promises 1 to 15, what is told and done, a test for each sentence under their headings. */
final class EdgesOfCalls extends Edges {
    private static final int BLANKS = 0x20202020;

    private EdgesOfCalls() {
    }

    static void run() {
        p01NewObject();
        p02Road();
        p02RoadRefused();
        p03Goer();
        p03GoerRefused();
        p04Feed();
        p04FeedRefused();
        p05End();
        p05EndRefused();
        p06Text();
        p06TextRefused();
        p06TextBehindSpoilt();
        p06TextFull();
        p07Fault();
        p07FaultRefused();
        p08By();
        p08ByRefused();
        p09Go();
        p09GoRefused();
        p10Relay();
        p10RelayRefused();
        p11Coil();
        p11CoilRefused();
        p12Day();
        p12DayRefused();
        p13Played();
        p13PlayedRefused();
        p14Years();
        p14YearsRefused();
        p15Undo();
        p15UndoRefused();
    }

    private static void p01NewObject() {
        says(1, "No road; THE IMAGE is this");
        LiquoriceRoads x = new LiquoriceRoads();
        due("roads", x.about(0), 0);
        due("goers", x.about(1), 0);
        due("texts", x.about(2), 0);
        due("the text", x.about(3), NONE);
        due("steps", x.about(4), 0);
        due("said", x.about(5), 0);
        due("tape", x.about(6), 0);
        due("book", x.book(NONE, 0), 0);
        String before = state(x);
        due("back at once", x.back(), 0);
        unchanged(x, before);
        x.road(0, 1, 1, 9);
        x.goer(0, 1);
        x.go(0, 0);
        x.day(9);
        x.coil(1);
        x.said(0, 0, 0);
        due("it is no road's image", x.who(0), NONE);
        due("back", x.back(), 0);
        unchanged(x, before);
        LiquoriceRoads y = new LiquoriceRoads();
        y.road(0, 1, 1, 9);
        due("another object is another", x.about(0), 0);
    }

    private static void p02Road() {
        says(2, "A ROAD: its number");
        LiquoriceRoads x = new LiquoriceRoads();
        for (int road = 0; road < 16; road++) {
            due("road", x.road(road % 8, (road + 1) % 8, 1 + road % 9, 1 + road * 6), road);
        }
        for (int road = 0; road < 16; road++) {
            due("its town", x.of(road, 0), road % 8);
            due("its other town", x.of(road, 1), (road + 1) % 8);
            due("its length", x.of(road, 2), 1 + road % 9);
            due("its thick", x.of(road, 3), 1 + road * 6);
        }
    }

    private static void p02RoadRefused() {
        says(2, "NONE for others, or if there are 16");
        LiquoriceRoads x = new LiquoriceRoads();
        for (int far : FAR) {
            due("town a " + far, x.road(far, 1, 1, 1), NONE);
            due("town b " + far, x.road(0, far, 1, 1), NONE);
            due("both " + far, x.road(far, far, 1, 1), NONE);
            due("length " + far, x.road(0, 1, far, 1), NONE);
            due("thick " + far, x.road(0, 1, 1, far), NONE);
        }
        due("length 257", x.road(0, 1, 257, 1), NONE);
        due("thick 257", x.road(0, 1, 1, 257), NONE);
        due("none is told", x.about(0), 0);
        for (int road = 0; road < 16; road++) {
            due("none is lost", x.road(0, 1, 1, 1), road);
        }
        String before = state(x);
        due("there are 16", x.road(0, 1, 1, 1), NONE);
        due("there are 16 still", x.road(2, 3, 9, 99), NONE);
        unchanged(x, before);
        due("the last is as told", x.of(15, 1), 1);
    }

    private static void p03Goer() {
        says(3, "A GOER: its number");
        LiquoriceRoads x = new LiquoriceRoads();
        for (int goer = 0; goer < 6; goer++) {
            due("goer", x.goer(7 - goer, 9 - goer), goer);
        }
        for (int goer = 0; goer < 6; goer++) {
            due("where", x.ofGoer(goer, 0), 7 - goer);
            due("mouth", x.ofGoer(goer, 1), 9 - goer);
            due("went", x.ofGoer(goer, 2), 0);
        }
    }

    private static void p03GoerRefused() {
        says(3, "NONE for others, or if there are 6");
        LiquoriceRoads x = new LiquoriceRoads();
        for (int far : FAR) {
            due("town " + far, x.goer(far, 1), NONE);
            due("mouth " + far, x.goer(0, far), NONE);
        }
        due("none is told", x.about(1), 0);
        for (int goer = 0; goer < 6; goer++) {
            due("none is lost", x.goer(0, 1), goer);
        }
        String before = state(x);
        due("there are 6", x.goer(3, 3), NONE);
        unchanged(x, before);
        due("the last is as told", x.ofGoer(5, 1), 1);
    }

    private static void p04Feed() {
        says(4, "Twenty bytes come behind the tape, the highest of a first: how many it has");
        LiquoriceRoads x = new LiquoriceRoads();
        // "road 0 to 1 long 2 t" "hick 3;             "
        due("twenty", x.feed(0x726f6164, 0x20302074, 0x6f203120, 0x6c6f6e67, 0x20322074), 20);
        due("forty", x.feed(0x6869636b, 0x20333b20, BLANKS, BLANKS, BLANKS), 40);
        due("in this order", x.text(), 0);
        x.played(0);
        due("thick 3", x.of(0, 3), 3);
        for (int i = 0; i < 20; i++) {
            int[] words = {BLANKS, BLANKS, BLANKS, BLANKS, BLANKS};
            words[i / 4] ^= 0xdf << 24 - i % 4 * 8;
            LiquoriceRoads y = new LiquoriceRoads();
            y.feed(words[0], words[1], words[2], words[3], words[4]);
            due("a byte of 255", y.text(), NONE);
            due("its place", y.fault(1), i);
        }
        LiquoriceRoads z = new LiquoriceRoads();
        z.feed(BLANKS, BLANKS, BLANKS, BLANKS, BLANKS);
        z.end(3);
        due("behind what is left", z.feed(0x3f202020, BLANKS, BLANKS, BLANKS, BLANKS), 23);
        z.text();
        due("its place", z.fault(1), 3);
    }

    private static void p04FeedRefused() {
        says(4, "NONE, and none come, if there would be more than 300");
        LiquoriceRoads x = new LiquoriceRoads();
        for (int n = 1; n <= 15; n++) {
            due("feed", x.feed(BLANKS, BLANKS, BLANKS, BLANKS, BLANKS), n * 20);
        }
        due("320", x.feed(0, 0, 0, 0, 0), NONE);
        due("none come", x.about(6), 300);
        x.end(281);
        due("301", x.feed(0, 0, 0, 0, 0), NONE);
        due("none come", x.about(6), 281);
        x.end(280);
        due("300", x.feed(BLANKS, BLANKS, BLANKS, BLANKS, 0x2020203f), 300);
        due("it has its last byte", x.text(), NONE);
        due("its place", x.fault(1), 299);
        due("empty again", x.feed(0, 0, 0, 0, 0), 20);
    }

    private static void p05End() {
        says(5, "The tape has its first n bytes alone: n");
        LiquoriceRoads x = new LiquoriceRoads();
        due("0 of none", x.end(0), 0);
        for (int n = 0; n < 15; n++) {
            x.feed(BLANKS, BLANKS, BLANKS, BLANKS, 0x2020203f);
        }
        due("all", x.end(300), 300);
        due("one less", x.end(299), 299);
        due("how many", x.about(6), 299);
        due("19", x.end(19), 19);
        due("the first are blanks", x.text(), 0);
        x.feed(0x3f3f3f3f, 0, 0, 0, 0);
        due("0", x.end(0), 0);
        due("an empty one", x.text(), 1);
    }

    private static void p05EndRefused() {
        says(5, "NONE, and nothing is done, if it has not so many, or n is below 0");
        LiquoriceRoads x = new LiquoriceRoads();
        due("1 of none", x.end(1), NONE);
        x.feed(1, 2, 3, 4, 5);
        for (int wrong : new int[] {-1, 21, 300, 301, -2, LOW, LOW + 1, HIGH, -256, 65556, -65536}) {
            due("end of " + wrong, x.end(wrong), NONE);
            due("nothing is done", x.about(6), 20);
        }
        x.end(5);
        due("what is cut off is gone", x.end(6), NONE);
        due("nothing is done", x.about(6), 5);
    }

    private static void p06Text() {
        says(6, "The tape (empty then) is a TEXT: its number");
        LiquoriceRoads x = new LiquoriceRoads();
        for (int text = 0; text < 4; text++) {
            Tapes.write(x, "coil " + (text + 1) + ";");
            due("its number", x.text(), text);
            due("empty then", x.about(6), 0);
        }
        int coil = 20;
        for (int text = 0; text < 4; text++) {
            x.played(text);
            coil += text + 1;
            due("each is its own", x.is(3), coil);
        }
    }

    private static void p06TextRefused() {
        says(6, "NONE: it has a FAULT; or (the tape stays) there are 4");
        LiquoriceRoads x = new LiquoriceRoads();
        Tapes.write(x, "coil 1;coil");
        due("a fault", x.text(), NONE);
        due("no text", x.about(2), 0);
        due("the tape doesn't stay", x.about(6), 0);
        due("its number is free", Tapes.text(x, "coil 5;"), 0);
        Tapes.text(x, "coil 1;coil 1;coil;");
        x.played(0);
        due("a spoilt one leaves the others", x.is(3), 25);
        due("nothing of it is left", Tapes.text(x, "day 1;"), 1);
        due("one clause", x.played(1), NONE);
        due("coil", x.is(3), 25);
    }

    /** However many spoilt ones came ahead of it, and however long they were. */
    private static void p06TextBehindSpoilt() {
        says(6, "NONE: it has a FAULT; or (the tape stays) there are 4");
        LiquoriceRoads x = small();
        String sum = "sucks 5" + "+1-1".repeat(72);
        for (int i = 0; i < 5; i++) {
            due("a long one that is spoilt", Tapes.text(x, sum + "+?"), NONE);
        }
        due("a long one that isn't", Tapes.text(x, sum + ";"), 0);
        x.by(0);
        due("its sucks", x.sucks(0, 0), 5);
        String[] spoilt = {"sucks -3", "sucks 7+3", "sucks roads 0", "sucks 7-(7*7)", "sucks 8;swells 8", "swells -3", "coil 1;sucks 1"};
        for (String text : spoilt) {
            x.back();
            x.road(0, 1, 2, 9);
            x.goer(0, 3);
            due("spoilt", Tapes.text(x, text), NONE);
            rule(x, "sucks 6;");
            due("sucks behind " + text, x.sucks(0, 0), 6);
            due("swells behind " + text, x.of(0, 5), 0);
            due("nothing to be done behind " + text, x.played(0), NONE);
            due("coil behind " + text, x.is(3), 20);
        }
    }

    private static void p06TextFull() {
        says(6, "NONE: it has a FAULT; or (the tape stays) there are 4");
        LiquoriceRoads x = new LiquoriceRoads();
        for (int text = 0; text < 4; text++) {
            Tapes.text(x, "coil 1;");
        }
        Tapes.write(x, "coil 2;");
        String before = state(x);
        due("there are 4", x.text(), NONE);
        due("there are 4 still", x.text(), NONE);
        unchanged(x, before);
        Tapes.write(x, "?");
        due("there are 4", x.text(), NONE);
        due("the tape stays", x.about(6), 1);
        due("it isn't read", x.fault(0), 0);
        x.back();
        due("read now", x.text(), NONE);
        due("its fault", x.fault(0), 1);
    }

    private static void p07Fault() {
        says(7, "Of the latest text that was read: 0 its FAULT (0 without), 1 its place (NONE without)");
        LiquoriceRoads x = new LiquoriceRoads();
        Tapes.text(x, "coil 1;coil 0;");
        due("fault", x.fault(0), 2);
        due("place", x.fault(1), 12);
        x.feed(0, 0, 0, 0, 0);
        x.end(0);
        due("it stays", x.fault(0), 2);
        Tapes.text(x, "?");
        due("the latest", x.fault(0), 1);
        due("place 0", x.fault(1), 0);
        Tapes.text(x, "coil 1;");
        due("without", x.fault(0), 0);
        due("without a place", x.fault(1), NONE);
    }

    private static void p07FaultRefused() {
        says(7, "NONE for others, and ahead of any");
        LiquoriceRoads x = new LiquoriceRoads();
        due("ahead of any: fault", x.fault(0), NONE);
        due("ahead of any: place", x.fault(1), NONE);
        x.feed(0, 0, 0, 0, 0);
        due("not read yet", x.fault(0), NONE);
        Tapes.text(x, "?");
        due("what -1", x.fault(-1), NONE);
        due("what 2", x.fault(2), NONE);
        for (int far : FAR) {
            due("what " + far, x.fault(far), NONE);
        }
    }

    private static void p08By() {
        says(8, "THE TEXT (NONE: none): true");
        LiquoriceRoads x = small();
        due("none of none", x.by(NONE), true);
        for (int text = 0; text < 4; text++) {
            Tapes.text(x, "sucks " + (5 + text) + ";");
            due("the latest", x.by(text), true);
            due("it rules", x.about(3), text);
            due("sucks", x.sucks(0, 0), 5 + text);
        }
        due("the first", x.by(0), true);
        due("sucks", x.sucks(0, 0), 5);
        due("none", x.by(NONE), true);
        due("none rules", x.about(3), NONE);
        due("sucks", x.sucks(0, 0), 2);
    }

    private static void p08ByRefused() {
        says(8, "False for others");
        LiquoriceRoads x = small();
        due("no text yet", x.by(0), false);
        Tapes.text(x, "sucks 5;");
        x.by(0);
        for (int wrong : new int[] {-2, 1, 2, 3, 4}) {
            due("text " + wrong, x.by(wrong), false);
        }
        for (int far : FAR) {
            due("text " + far, x.by(far), false);
        }
        due("it rules still", x.about(3), 0);
        Tapes.text(x, "sucks");
        due("a spoilt one is none", x.by(1), false);
    }

    private static void p09Go() {
        says(9, "GONE: the TOWN it comes to");
        LiquoriceRoads x = ruled("sucks 0;");
        for (int road = 0; road < 7; road++) {
            x.road(road, road + 1, 1, 1);
        }
        x.road(0, 7, 1, 1);
        for (int goer = 0; goer < 6; goer++) {
            x.goer(0, 1);
        }
        for (int town = 1; town < 8; town++) {
            due("up", x.go(5, town - 1), town);
        }
        for (int town = 6; town >= 0; town--) {
            due("down", x.go(5, town), town);
        }
        due("the ends of a road", x.go(0, 7), 7);
        due("and back", x.go(0, 7), 0);
    }

    private static void p09GoRefused() {
        says(9, "NONE, if it can't be, and for others");
        LiquoriceRoads x = small();
        x.road(1, 2, 1, 9);
        String before = state(x);
        due("not of its town", x.go(0, 1), NONE);
        for (int wrong : new int[] {-2, -1, 1, 6}) {
            due("goer " + wrong, x.go(wrong, 0), NONE);
        }
        for (int wrong : new int[] {-2, -1, 2, 16}) {
            due("road " + wrong, x.go(0, wrong), NONE);
        }
        for (int far : FAR) {
            due("goer " + far, x.go(far, 0), NONE);
            due("road " + far, x.go(0, far), NONE);
            due("both " + far, x.go(far, far), NONE);
        }
        unchanged(x, before);
        due("none at all", new LiquoriceRoads().go(0, 0), NONE);
    }

    private static void p10Relay() {
        says(10, "LAID ANEW: true");
        LiquoriceRoads x = new LiquoriceRoads();
        for (int road = 0; road < 16; road++) {
            x.road(0, 1, 1, 99);
        }
        suckedTo(x, 15, 0);
        due("from 0 to 99", x.relay(15), true);
        due("thick", x.of(15, 3), 99);
        due("coil", x.is(3), 19);
        suckedTo(x, 0, 98);
        due("from 98 to 99", x.relay(0), true);
        due("thick", x.of(0, 3), 99);
    }

    private static void p10RelayRefused() {
        says(10, "False, if it can't be, and for others");
        LiquoriceRoads x = small();
        x.go(0, 0);
        String before = state(x);
        for (int wrong : new int[] {-2, -1, 1, 15, 16}) {
            due("road " + wrong, x.relay(wrong), false);
        }
        for (int far : FAR) {
            due("road " + far, x.relay(far), false);
        }
        unchanged(x, before);
        due("it can be", x.relay(0), true);
        due("not twice", x.relay(0), false);
        due("none at all", new LiquoriceRoads().relay(0), false);
    }

    private static void p11Coil() {
        says(11, "COILED: true");
        LiquoriceRoads x = new LiquoriceRoads();
        due("the least", x.coil(1), true);
        due("21", x.is(3), 21);
        due("the most", x.coil(99), true);
        due("120", x.is(3), 120);
    }

    private static void p11CoilRefused() {
        says(11, "False for others (1 .. 99), and beyond 999");
        LiquoriceRoads x = new LiquoriceRoads();
        String before = state(x);
        due("0", x.coil(0), false);
        due("-1", x.coil(-1), false);
        due("100", x.coil(100), false);
        due("257", x.coil(257), false);
        for (int far : FAR) {
            due("miles " + far, x.coil(far), false);
        }
        unchanged(x, before);
        coilTo(x, 900);
        due("999", x.coil(99), true);
        due("1000", x.coil(1), false);
        x.undo();
        x.coil(1);
        before = state(x);
        due("1000 by the most", x.coil(99), false);
        unchanged(x, before);
        due("999 again", x.coil(98), true);
    }

    private static void p12Day() {
        says(12, "DAYS pass (1 .. 60): how many times anybody goes in them");
        LiquoriceRoads x = ruled("sucks 0;");
        due("nobody", x.day(60), 0);
        due("sixty passed", x.is(0), 60);
        x.road(0, 1, 1, 1);
        for (int goer = 0; goer < 6; goer++) {
            x.goer(0, 1);
            due("one day", x.day(1), goer + 1);
        }
        due("sixty days of six", x.day(60), 360);
        due("day", x.is(0), 126);
        due("each goer went", x.ofGoer(5, 2), 61);
        LiquoriceRoads y = small();
        due("9 by 2, then it is too thin, but for rain", y.day(4), 4);
    }

    private static void p12DayRefused() {
        says(12, "NONE for others, or beyond 9999 (nothing is done then)");
        LiquoriceRoads y = small();
        String before = state(y);
        due("0", y.day(0), NONE);
        due("-1", y.day(-1), NONE);
        due("61", y.day(61), NONE);
        for (int far : FAR) {
            due("n " + far, y.day(far), NONE);
        }
        unchanged(y, before);
        LiquoriceRoads x = aged(9939);
        before = state(x);
        due("61, beyond", x.day(61), NONE);
        due("the greatest", x.day(HIGH), NONE);
        unchanged(x, before);
        due("to 9999", x.day(60), 60);
        x.undo();
        before = state(x);
        due("to 10000", x.day(2), NONE);
        due("to 10058", x.day(60), NONE);
        unchanged(x, before);
        due("to 9999", x.day(1), 1);
        before = state(x);
        due("none can pass", x.day(1), NONE);
        unchanged(x, before);
    }

    private static void p13Played() {
        says(13, "PLAYED by a TEXT: NONE: all is done; else the number of the CLAUSE that can't be");
        LiquoriceRoads x = new LiquoriceRoads();
        Tapes.text(x, "");
        Tapes.text(x, "coil 1;".repeat(24));
        Tapes.text(x, "relay 0;coil 1;");
        Tapes.text(x, "sucks 1;swells 1;" + "coil 1;".repeat(21) + "relay 0;");
        due("nothing to be done", x.played(0), NONE);
        due("24", x.played(1), NONE);
        due("the first can't be", x.played(2), 0);
        due("the 24th can't be", x.played(3), 23);
        due("coil: 24, 0, 21 more", x.is(3), 65);
    }

    private static void p13PlayedRefused() {
        says(13, "-2 for others");
        LiquoriceRoads x = new LiquoriceRoads();
        due("no text yet", x.played(0), -2);
        Tapes.text(x, "coil 1;");
        String before = state(x);
        for (int wrong : new int[] {-2, -1, 1, 3, 4}) {
            due("text " + wrong, x.played(wrong), -2);
        }
        for (int far : FAR) {
            due("text " + far, x.played(far), -2);
        }
        unchanged(x, before);
    }

    private static void p14Years() {
        says(14, "YEARS: DAY");
        LiquoriceRoads x = new LiquoriceRoads();
        x.day(7);
        due("no day: 283 mod 6 = 1", x.years(0, 1), 7);
        due("no day: 285 mod 6 = 3", x.years(1, 1), 7);
        due("a day: 287 mod 6 = 5", x.years(2, 1), 8);
        due("as it is", x.is(0), 8);
    }

    private static void p14YearsRefused() {
        says(14, "NONE for others");
        LiquoriceRoads x = small();
        x.day(1);
        String before = state(x);
        for (int wrong : new int[] {-1, 10000}) {
            due("seed " + wrong, x.years(wrong, 1), NONE);
        }
        for (int wrong : new int[] {-1, 0, 41}) {
            due("n " + wrong, x.years(1, wrong), NONE);
        }
        for (int far : FAR) {
            due("seed " + far, x.years(far, 1), NONE);
            due("n " + far, x.years(1, far), NONE);
        }
        unchanged(x, before);
        due("the greatest of both", x.years(9999, 40) >= 1, true);
    }

    private static void p15Undo() {
        says(15, "The latest STEP is taken back: how many can be yet");
        LiquoriceRoads x = new LiquoriceRoads();
        x.coil(1);
        x.coil(2);
        due("one yet", x.undo(), 1);
        due("the latest", x.is(3), 21);
        due("none yet", x.undo(), 0);
        due("the first", x.is(3), 20);
        x.day(60);
        due("29 yet", x.undo(), 29);
        due("a day", x.is(0), 59);
        x.coil(3);
        due("29 yet", x.undo(), 29);
        due("that one alone", x.is(0), 59);
    }

    private static void p15UndoRefused() {
        says(15, "NONE: there is none");
        LiquoriceRoads x = small();
        String before = state(x);
        due("none was", x.undo(), NONE);
        unchanged(x, before);
        x.day(31);
        for (int left = 29; left >= 0; left--) {
            due("yet", x.undo(), left);
        }
        before = state(x);
        due("no more", x.undo(), NONE);
        due("no more", x.undo(), NONE);
        unchanged(x, before);
        due("the eldest stays", x.is(0), 1);
        x.coil(1);
        due("one again", x.undo(), 0);
        due("no more", x.undo(), NONE);
    }
}
