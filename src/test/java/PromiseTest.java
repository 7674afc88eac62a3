/** Each promise of the document by itself: ordinary inputs, its edges, and wrong inputs. */
public final class PromiseTest {
    private static final int NONE = LiquoriceRoads.NONE;
    private static final int LOW = Integer.MIN_VALUE;
    private static final int HIGH = Integer.MAX_VALUE;
    private static final Due DUE = new Due();

    private PromiseTest() {
    }

    public static void main(String[] args) {
        told();
        tapes();
        deeds();
        looks();
        nets();
        crowds();
        images();
        DUE.close();
    }

    private static void told() {
        p01NewObject();
        p02Road();
        p03Goer();
    }

    private static void tapes() {
        p04Feed();
        p05End();
        p06Text();
        p07Fault();
        p07FaultDepth();
        p07FaultCount();
        p08By();
    }

    private static void deeds() {
        p09Go();
        p10Relay();
        p11Coil();
        p12Day();
        p12DayRain();
        p12DayOrder();
        p12DayLast();
        p13Played();
        p13PlayedLimits();
        p14Years();
        p14YearsOfNothing();
        p14YearsOfCoil();
        p15Undo();
        p15UndoTold();
    }

    private static void looks() {
        p16Of();
        p17OfGoer();
        p18Sucks();
        p18SucksNames();
        p19Is();
        p20Book();
        p21Foretold();
    }

    private static void nets() {
        p22Miles();
        p23Way();
        p24Widest();
        p25FlowAnd26Cut();
        p27Tree();
        p28BridgesAnd31Pieces();
        p29Carter();
        p30Centre();
        p35Watch();
        p36Colours();
        p37Likely();
        p38Ring();
        p44Lonely();
    }

    private static void crowds() {
        p32Times();
        p33Crowd();
        p34Who();
        p39Stranded();
        p40SaidAnd41Whose();
        p42Thinnest();
        p43Busiest();
        p45Ledger();
    }

    private static void images() {
        p46ImageAnd47Back();
        p46ImageKeepsSteps();
        p48About();
    }

    private static void due(String call, long got, long want) {
        DUE.same(call, got, want);
    }

    private static void due(String call, boolean got, boolean want) {
        DUE.same(call, got, want);
    }

    /** A new object that has just one TEXT, which rules. */
    private static LiquoriceRoads ruled(String text) {
        LiquoriceRoads x = new LiquoriceRoads();
        due("text of " + text, Tapes.text(x, text), 0);
        x.by(0);
        return x;
    }

    /** A ROAD of 9 between 0 and 1, 2 miles, and a GOER in 0 that sucks 2. */
    private static LiquoriceRoads small() {
        LiquoriceRoads x = new LiquoriceRoads();
        x.road(0, 1, 2, 9);
        x.goer(0, 3);
        return x;
    }

    /** A ring 0-1-2 (4, 3, 9 miles), a tail 2-3, and 4-5 aside. */
    private static LiquoriceRoads shire() {
        LiquoriceRoads x = new LiquoriceRoads();
        x.road(0, 1, 4, 10);
        x.road(1, 2, 3, 8);
        x.road(0, 2, 9, 5);
        x.road(2, 3, 2, 6);
        x.road(4, 5, 1, 1);
        return x;
    }

    /** Sucks a ROAD down to nothing: two GOERS are needed, as by whom doesn't matter here. */
    private static void emptied(LiquoriceRoads x, int road) {
        int text = Tapes.text(x, "sucks thick;");
        x.by(text);
        int goer = x.goer(x.of(road, 0), 1);
        x.go(goer, road);
        x.by(NONE);
        due("emptied", x.of(road, 3), 0);
    }

    private static void p01NewObject() {
        LiquoriceRoads x = new LiquoriceRoads();
        for (int what : new int[] {0, 1, 2, 4, 5, 6}) {
            due("1 about " + what, x.about(what), 0);
        }
        due("1 about 3", x.about(3), NONE);
        due("1 is 0", x.is(0), 0);
        due("1 is 1", x.is(1), 283);
        due("1 is 2", x.is(2), 0);
        due("1 is 3", x.is(3), 20);
        due("1 book", x.book(NONE, 0), 0);
        x.road(0, 1, 1, 1);
        x.goer(0, 1);
        x.day(3);
        x.coil(7);
        due("1 back", x.back(), 0);
        due("1 roads behind back", x.about(0), 0);
        due("1 goers behind back", x.about(1), 0);
        due("1 coil behind back", x.is(3), 20);
        due("1 X behind back", x.is(1), 283);
        due("1 steps behind back", x.about(4), 0);
        due("1 NONE", NONE, -1);
    }

    private static void p02Road() {
        LiquoriceRoads x = new LiquoriceRoads();
        int[][] wrong = {{0, 0, 1, 1}, {-1, 0, 1, 1}, {8, 0, 1, 1}, {0, -1, 1, 1}, {0, 8, 1, 1}, {0, 1, 0, 1}, {0, 1, 10, 1},
            {0, 1, 1, 0}, {0, 1, 1, 100}, {LOW, 1, 1, 1}, {0, HIGH, 1, 1}, {0, 1, LOW, 1}, {0, 1, 1, HIGH}};
        for (int[] w : wrong) {
            due("2 wrong road", x.road(w[0], w[1], w[2], w[3]), NONE);
        }
        due("2 none told", x.about(0), 0);
        due("2 first", x.road(0, 7, 9, 99), 0);
        due("2 second", x.road(7, 0, 1, 1), 1);
        for (int i = 2; i < 16; i++) {
            due("2 road " + i, x.road(3, 4, 5, 6), i);
        }
        due("2 the 17th", x.road(3, 4, 5, 6), NONE);
        due("2 sixteen", x.about(0), 16);
        due("2 no step", x.about(4), 0);
    }

    private static void p03Goer() {
        LiquoriceRoads x = new LiquoriceRoads();
        int[][] wrong = {{-1, 1}, {8, 1}, {0, 0}, {0, 10}, {LOW, 1}, {0, HIGH}};
        for (int[] w : wrong) {
            due("3 wrong goer", x.goer(w[0], w[1]), NONE);
        }
        due("3 first", x.goer(0, 9), 0);
        due("3 second", x.goer(7, 1), 1);
        for (int i = 2; i < 6; i++) {
            due("3 goer " + i, x.goer(7, 5), i);
        }
        due("3 the 7th", x.goer(7, 5), NONE);
        due("3 six", x.about(1), 6);
    }

    private static void p04Feed() {
        LiquoriceRoads x = new LiquoriceRoads();
        for (int i = 1; i <= 15; i++) {
            due("4 feed " + i, x.feed(0x20202020, 0x20202020, 0x20202020, 0x20202020, 0x20202020), i * 20);
        }
        due("4 too many", x.feed(0, 0, 0, 0, 0), NONE);
        due("4 none come", x.about(6), 300);
        due("4 blanks are a text", x.text(), 0);
        x.feed(0x20202020, 0x20202020, 0x20202020, 0x20202020, 0x20202020);
        x.end(1);
        for (int i = 1; i <= 14; i++) {
            x.feed(0, 0, 0, 0, 0);
        }
        due("4 281 bytes", x.about(6), 281);
        due("4 301 would be too many", x.feed(0, 0, 0, 0, 0), NONE);
        x.end(280);
        due("4 300 are fine", x.feed(0, 0, 0, 0, 0), 300);
        x.end(0);
        x.feed(0x636f696c, 0x20313b63, 0x6f696cff, 0, 0);
        due("4 a byte of 255 is none", x.text(), NONE);
        due("4 its fault", x.fault(0), 1);
        due("4 its place: the highest byte comes first", x.fault(1), 11);
    }

    private static void p05End() {
        LiquoriceRoads x = new LiquoriceRoads();
        due("5 nothing", x.end(0), 0);
        due("5 has not one", x.end(1), NONE);
        x.feed(1, 2, 3, 4, 5);
        due("5 below", x.end(-1), NONE);
        due("5 above", x.end(21), NONE);
        due("5 far", x.end(HIGH), NONE);
        due("5 low", x.end(LOW), NONE);
        due("5 nothing is done", x.about(6), 20);
        due("5 all", x.end(20), 20);
        due("5 some", x.end(7), 7);
        due("5 seven", x.about(6), 7);
        due("5 eight are no more", x.end(8), NONE);
    }

    private static void p06Text() {
        LiquoriceRoads x = new LiquoriceRoads();
        due("6 an empty one", x.text(), 0);
        due("6 second", Tapes.text(x, "coil 1;"), 1);
        due("6 the tape is empty", x.about(6), 0);
        due("6 a fault", Tapes.text(x, "coil;"), NONE);
        due("6 the tape is empty then too", x.about(6), 0);
        due("6 still two", x.about(2), 2);
        due("6 third", Tapes.text(x, "day 1;\n\n  sucks\n1;"), 2);
        due("6 fourth", Tapes.text(x, "goer 0 mouth 1;"), 3);
        Tapes.write(x, "coil;");
        due("6 there are 4", x.text(), NONE);
        due("6 the tape stays", x.about(6), 5);
        due("6 it was not read", x.fault(0), 0);
        x.back();
        due("6 texts are gone", x.about(2), 0);
        due("6 the tape is not of the image", x.about(6), 5);
        due("6 read now", x.text(), NONE);
        due("6 fault now", x.fault(1), 4);
        due("6 first again", Tapes.text(x, "coil 2;"), 0);
        x.played(0);
        due("6 it is the new one", x.is(3), 22);
    }

    private static void fault(String text, int what, int place) {
        LiquoriceRoads x = new LiquoriceRoads();
        due("7 text of " + text, Tapes.text(x, text), what == 0 ? 0 : NONE);
        due("7 fault of " + text, x.fault(0), what);
        due("7 place of " + text, x.fault(1), place);
    }

    private static void p07Fault() {
        LiquoriceRoads x = new LiquoriceRoads();
        due("7 ahead of any", x.fault(0), NONE);
        due("7 ahead of any", x.fault(1), NONE);
        Tapes.text(x, "go");
        due("7 what 2", x.fault(2), NONE);
        due("7 what -1", x.fault(-1), NONE);
        fault("", 0, NONE);
        fault(" \n ", 0, NONE);
        fault("go", 1, 2);
        fault("go  ", 1, 4);
        fault("go 1by 2;", 0, NONE);
        fault("go 1by2;", 0, NONE);
        fault("go1 by 2;", 0, NONE);
        fault("go 01 by 000002;", 0, NONE);
        fault("GO 1 by 2;", 1, 0);
        fault("go 1 by 2", 1, 9);
        fault("go 1 by 2;;", 1, 10);
        fault("go\t1 by 2;", 1, 2);
        fault("go 16 by 2;", 2, 3);
        fault("go 15 by 5;", 0, NONE);
        fault("go 0 by 6;", 2, 8);
        fault("go 99999999999999999999 by 2;", 2, 3);
        fault("go 4294967296 by 2;", 2, 3);
        fault("road 7 to 7 long 9 thick 99;", 0, NONE);
        fault("road 0 to 0 long 1 thick 1;", 0, NONE);
        fault("road 8 to 0 long 1 thick 1;", 2, 5);
        fault("road 0 to 8 long 1 thick 1;", 2, 10);
        fault("goer 8 mouth 1;", 2, 5);
        fault("goer 0 mouth 0;", 2, 13);
        fault("relay 16;", 2, 6);
        fault("coil 0;", 2, 5);
        fault("coil 100;", 2, 5);
        fault("day 61;", 2, 4);
        fault("road 0 to 1 long 0 thick 1;", 2, 17);
        fault("road 0 to 1 long 1 thick 0;", 2, 25);
        fault("road 0 to 1 long 1 thick 100;", 2, 25);
        fault("road 0 to 1 thick 1 long 1;", 1, 12);
        fault("road 0 to 1 long 10 thick 100;", 2, 17);
        fault("goer 7 mouth 9;", 0, NONE);
        fault("goer 7 mouth 10;", 2, 13);
        fault("goer -1 mouth 1;", 1, 5);
        fault("relay 15;", 0, NONE);
        fault("relay x;", 1, 6);
        fault("coil 99;day 60;", 0, NONE);
        fault("day 0;", 2, 4);
        fault("sucks;", 1, 5);
        fault("sucks 9999;", 0, NONE);
        fault("sucks 09999;", 0, NONE);
        fault("sucks 10000;", 2, 6);
        fault("sucks 1 10000;", 1, 8);
        fault("sucks foo;", 1, 6);
        fault("sucks to;", 1, 6);
        fault("sucks first;", 5, 6);
        fault("sucks 1 first;", 1, 8);
        fault("swells who;", 5, 7);
        fault("swells went;", 5, 7);
        fault("swells mouth;", 5, 7);
        fault("swells first;", 0, NONE);
        fault("sucks mouth+who+went+day+rain+way+long+thick;", 0, NONE);
        fault("swells day+rain+way+long+thick+first;", 0, NONE);
        fault("swells 1;sucks 1;swells ?", 4, 17);
        fault("sucks 1+;", 1, 8);
        fault("sucks +1;", 1, 6);
        fault("sucks --1;", 0, NONE);
        fault("sucks (1;", 1, 8);
        fault("sucks 1);", 1, 7);
        fault("sucks common 1+2 of 3;", 1, 14);
        fault("sucks common (1+2) of 3;", 0, NONE);
        fault("sucks if 1<2 then 3 else 4;", 1, 26);
        fault("sucks if 1<2 then 3 end;", 1, 20);
        fault("sucks if (1<2) then 3 else 4 end;", 1, 11);
        fault("sucks if 1< =2 then 3 else 4 end;", 1, 12);
        fault("sucks if 1<>2 then 3 else 4 end;", 1, 11);
        fault("sucks if 1<2<3 then 3 else 4 end;", 1, 12);
        fault("sucks if 1<=2 and 3>=4 or not 5=6 and 7#8 then 9 else 10 end;", 0, NONE);
        fault("sucks not 1;", 1, 6);
        fault("sucks 1 ? 2;", 1, 8);
        fault("sucks 1;?", 1, 8);
    }

    private static void p07FaultDepth() {
        fault("sucks ((((((((1))))))));", 0, NONE);
        fault("sucks (((((((((1)))))))));", 3, 14);
        fault("sucks --------1;", 0, NONE);
        fault("sucks ---------1;", 3, 14);
        fault("sucks --------1---------1;", 0, NONE);
        fault("sucks --------1----------1;", 3, 24);
        fault("sucks ((((((((1)))))))) + ((((((((1))))))));", 0, NONE);
        fault("sucks ((((((((- 1", 3, 14);
        fault("sucks ((((((((roads 1", 3, 14);
        fault("sucks ((((((((common 1", 3, 14);
        fault("sucks ((((((((if 1", 3, 14);
        fault("sucks ((((((((? 1", 1, 14);
        fault("sucks (((((((if not 1=1 then 2 else 3 end)))))));", 3, 16);
        fault("sucks ((((((if not 1=1 then 2 else 3 end))))));", 0, NONE);
        fault("sucks ((((((if not (1)=1 then 2 else 3 end))))));", 3, 19);
        fault("sucks ((((((if not 1=1 then (2) else (3) end))))));", 0, NONE);
        fault("sucks (((((((if 1=1 then (2) else 3 end)))))));", 3, 25);
        fault("sucks (((((((common 1 of 2)))))));", 0, NONE);
        fault("sucks (((((((common 1 of -2)))))));", 3, 25);
        fault("sucks (((((((common 1 of 2 + (1))))))));", 0, NONE);
        fault("sucks (((((((roads 1 + roads 2)))))));", 0, NONE);
        fault("sucks " + "roads ".repeat(8) + "1;", 0, NONE);
        fault("sucks " + "roads ".repeat(9) + "1;", 3, 54);
        fault("sucks " + "common ".repeat(8) + "1" + " of 2".repeat(8) + ";", 0, NONE);
        fault("sucks " + "common ".repeat(9) + "1", 3, 62);
        fault("sucks " + "common 1 of ".repeat(8) + "1;", 0, NONE);
        fault("sucks " + "common 1 of ".repeat(9) + "1;", 3, 102);
        fault("sucks if " + "not ".repeat(7) + "1=1 then 1 else 2 end;", 0, NONE);
        fault("sucks if " + "not ".repeat(8) + "1=1 then 1 else 2 end;", 3, 37);
        fault("sucks if not 1=1 and not 1=1 or not 1=1 then - - - - - - - 1 else - - - - - - - 1 end;", 0, NONE);
        fault("sucks " + "if 1=1 then ".repeat(8) + "1" + " else 2 end".repeat(8) + ";", 0, NONE);
        fault("sucks " + "if 1=1 then ".repeat(9) + "1", 3, 102);
    }

    private static void p07FaultCount() {
        fault("day 1;".repeat(24), 0, NONE);
        fault("day 1;".repeat(25), 6, 144);
        fault("day 1;".repeat(24) + "?", 1, 144);
        fault("day 1;".repeat(24) + "rain", 1, 144);
        fault("sucks 1;" + "day 1;".repeat(23) + "sucks", 4, 146);
        fault("sucks 1;" + "day 1;".repeat(23) + "swells", 6, 146);
    }

    private static void p08By() {
        LiquoriceRoads x = small();
        due("8 no text", x.by(0), false);
        Tapes.text(x, "sucks 5;");
        due("8 rules not yet", x.sucks(0, 0), 2);
        due("8 by 0", x.by(0), true);
        due("8 rules", x.sucks(0, 0), 5);
        due("8 by 1", x.by(1), false);
        due("8 by -2", x.by(-2), false);
        due("8 by far", x.by(HIGH), false);
        due("8 rules still", x.about(3), 0);
        due("8 by none", x.by(NONE), true);
        due("8 none rules", x.sucks(0, 0), 2);
        due("8 about", x.about(3), NONE);
    }

    private static void p09Go() {
        LiquoriceRoads x = small();
        x.road(2, 3, 1, 50);
        due("9 go", x.go(0, 0), 1);
        due("9 thick", x.of(0, 3), 7);
        due("9 went", x.ofGoer(0, 2), 1);
        due("9 written", x.book(NONE, 0), 1);
        due("9 back again", x.go(0, 0), 0);
        due("9 not of its town", x.go(0, 1), NONE);
        due("9 no such goer", x.go(1, 0), NONE);
        due("9 no such goer", x.go(-1, 0), NONE);
        due("9 no such road", x.go(0, 2), NONE);
        due("9 no such road", x.go(0, LOW), NONE);
        x.go(0, 0);
        x.go(0, 0);
        due("9 too thin", x.go(0, 0), NONE);
        due("9 stays", x.ofGoer(0, 0), 0);
        due("9 thick stays", x.of(0, 3), 1);
        due("9 steps", x.about(4), 4);
        LiquoriceRoads y = ruled("sucks thick;");
        y.road(0, 1, 1, 5);
        y.goer(1, 1);
        due("9 as thick as sucks", y.go(0, 0), 0);
        due("9 nothing left", y.of(0, 3), 0);
        due("9 nothing is sucked", y.go(0, 0), 1);
    }

    private static void p10Relay() {
        LiquoriceRoads x = new LiquoriceRoads();
        x.road(0, 1, 9, 9);
        x.goer(0, 9);
        due("10 not thinner", x.relay(0), false);
        due("10 no such road", x.relay(1), false);
        due("10 no such road", x.relay(-1), false);
        x.go(0, 0);
        due("10 relay", x.relay(0), true);
        due("10 thick", x.of(0, 3), 9);
        due("10 coil", x.is(3), 11);
        due("10 twice", x.relay(0), false);
        x.go(0, 0);
        due("10 again", x.relay(0), true);
        x.go(0, 0);
        due("10 coil 2 is too short", x.relay(0), false);
        x.coil(7);
        due("10 coil 9 is enough", x.relay(0), true);
        due("10 coil 0", x.is(3), 0);
        due("10 steps", x.about(4), 7);
    }

    private static void p11Coil() {
        LiquoriceRoads x = new LiquoriceRoads();
        due("11 nothing", x.coil(0), false);
        due("11 below", x.coil(-1), false);
        due("11 above", x.coil(100), false);
        due("11 far", x.coil(HIGH), false);
        for (int i = 0; i < 9; i++) {
            due("11 coil 99", x.coil(99), true);
        }
        due("11 coil is 911", x.is(3), 911);
        due("11 beyond", x.coil(89), false);
        due("11 just", x.coil(88), true);
        due("11 coil is 999", x.is(3), 999);
        due("11 full", x.coil(1), false);
        due("11 steps", x.about(4), 10);
    }

    private static void p12Day() {
        LiquoriceRoads x = small();
        due("12 wrong 0", x.day(0), NONE);
        due("12 wrong 61", x.day(61), NONE);
        due("12 wrong", x.day(LOW), NONE);
        due("12 wrong", x.day(HIGH), NONE);
        due("12 one", x.day(1), 1);
        due("12 X", x.is(1), 8154);
        due("12 day", x.is(0), 1);
        due("12 thick", x.of(0, 3), 7);
        due("12 three", x.day(3), 3);
        due("12 X", x.is(1), 7565);
        due("12 thick", x.of(0, 3), 1);
        due("12 no road to go, no draw", x.day(1), 0);
        due("12 X of one draw", x.is(1), 21058);
        due("12 day 5", x.is(0), 5);
        due("12 each is a step", x.about(4), 5);
        due("12 sixty", x.day(60) >= 0, true);
        due("12 day 65", x.is(0), 65);
        due("12 thirty steps", x.about(4), 30);
    }

    private static void p12DayRain() {
        LiquoriceRoads x = new LiquoriceRoads();
        x.road(0, 1, 1, 3);
        x.road(2, 3, 1, 3);
        emptied(x, 1);
        x.by(Tapes.text(x, "sucks 99;"));
        int drawn = 283;
        for (int i = 1; i <= 40; i++) {
            int wet = drawn % 10 < 3 ? 1 : 0;
            int thick = Math.min(3, x.of(1, 3) + wet);
            due("12 nobody can go", x.day(1), 0);
            drawn = (drawn * 547 + 421) % 30727;
            due("12 rain " + i, x.is(2), wet);
            due("12 swells by rain, at most as at first", x.of(1, 3), thick);
            due("12 X " + i, x.is(1), drawn);
        }
        due("12 as at first", x.of(1, 3), 3);
    }

    private static void p12DayOrder() {
        LiquoriceRoads x = ruled("sucks 1+who; swells if way=0 then 2 else roads 0 - 5 + day end;");
        x.road(0, 1, 1, 9);
        x.road(0, 1, 1, 9);
        x.goer(0, 1);
        x.goer(0, 1);
        // 283: no rain; 1587 mod 2 = 1: GOER 0 by ROAD 1; 8154 mod 2 = 0: GOER 1 by ROAD 0
        due("12 both go", x.day(1), 2);
        due("12 goer 0", x.book(0, 2), 1);
        due("12 goer 1", x.book(1, 2), 0);
        due("12 day of the book is ahead of its end", x.book(1, 0), 0);
        due("12 road 0: 9 - 2 + 2", x.of(0, 3), 9);
        due("12 road 1: 9 - 1 + 4, 9 at most", x.of(1, 3), 9);
        due("12 both are in 1", x.ofGoer(0, 0) + x.ofGoer(1, 0), 2);
        LiquoriceRoads y = ruled("sucks 6; swells if way=0 then 2 else roads 0 end;");
        y.road(0, 1, 1, 9);
        y.road(2, 3, 1, 9);
        y.goer(0, 1);
        y.goer(2, 1);
        y.day(1);
        due("12 road 0: 3 and 2", y.of(0, 3), 5);
        due("12 road 1: 3 and as thick as road 0 has become", y.of(1, 3), 8);
    }

    private static void p12DayLast() {
        LiquoriceRoads x = ruled("sucks 0; day 60;");
        x.road(0, 1, 1, 9);
        x.goer(0, 1);
        for (int i = 0; i < 166; i++) {
            due("12 sixty days", x.day(60), 60);
        }
        due("12 beyond", x.day(40), NONE);
        due("12 nothing is done", x.is(0), 9960);
        due("12 days", x.day(30), 30);
        due("12 just to the last", x.day(9), 9);
        due("12 day", x.is(0), 9999);
        for (int i = 0; i < 9; i++) {
            x.undo();
        }
        due("13 those that can pass do", x.played(0), 1);
        due("13 day", x.is(0), 9999);
        due("12 went", x.ofGoer(0, 2), 9999);
        due("12 none can pass", x.day(1), NONE);
        due("13 none can pass", x.played(0), 1);
        int across = 1 - x.ofGoer(0, 0);
        due("9 it goes on", x.go(0, 0), across);
        due("9 went 9999 at most", x.ofGoer(0, 2), 9999);
        due("20 day 9999", x.book(29, 0), 9999);
        due("21 those that can pass", x.foretold(60, 2, 0), 9999);
        due("14 no day", x.years(5, 40), 9999);
        x.undo();
        x.undo();
        due("15 day", x.is(0), 9999);
        x.undo();
        due("15 day", x.is(0), 9998);
        due("21 one can pass", x.foretold(2, 1, 0), 1 - x.ofGoer(0, 0));
    }

    private static void p13Played() {
        LiquoriceRoads x = new LiquoriceRoads();
        due("13 no text", x.played(0), -2);
        Tapes.text(x, "sucks 3; road 1 to 2 long 3 thick 9; goer 2 mouth 4; go 0 by 0; swells 1; relay 0; coil 5; day 2; go 0 by 0;");
        due("13 wrong", x.played(1), -2);
        due("13 wrong", x.played(NONE), -2);
        due("13 the last can't be or can", x.played(0), NONE);
        due("13 road", x.of(0, 2), 3);
        due("13 goer", x.ofGoer(0, 1), 4);
        due("13 by the default law: 9 - 2 relaid, three times 2", x.of(0, 3), 3);
        due("13 coil", x.is(3), 22);
        due("13 day", x.is(0), 2);
        due("13 steps: go, relay, coil, two days, go", x.about(4), 6);
        due("13 it does not rule", x.about(3), NONE);
        due("13 again: the second road, its goer; go 0 by 0 is 1", x.played(0), NONE);
        due("13 two roads", x.about(0), 2);
        Tapes.text(x, "coil 1;go 15 by 0;coil 1;");
        due("13 ends", x.played(1), 1);
        due("13 what was done stays, the rest isn't", x.is(3), 25);
        Tapes.text(x, "sucks 1;");
        due("13 laws alone", x.played(2), NONE);
    }

    private static void p13PlayedLimits() {
        LiquoriceRoads x = new LiquoriceRoads();
        Tapes.text(x, "coil 1;road 3 to 3 long 1 thick 1;");
        due("13 one and the same town", x.played(0), 1);
        Tapes.text(x, "goer 0 mouth 1;".repeat(7));
        due("13 six goers", x.played(1), 6);
        Tapes.text(x, "road 0 to 1 long 1 thick 1;".repeat(9));
        due("13 nine roads", x.played(2), NONE);
        due("13 sixteen roads", x.played(2), 7);
        due("13 sixteen", x.about(0), 16);
        Tapes.text(x, "coil 99;".repeat(12));
        due("13 coil beyond 999", x.played(3), 9);
        due("13 coil", x.is(3), 912);
    }

    private static void p14Years() {
        LiquoriceRoads x = shire();
        x.goer(0, 5);
        x.goer(0, 9);
        x.goer(2, 1);
        due("14 wrong seed", x.years(-1, 1), NONE);
        due("14 wrong seed", x.years(10000, 1), NONE);
        due("14 wrong n", x.years(0, 0), NONE);
        due("14 wrong n", x.years(0, 41), NONE);
        due("14 wrong", x.years(HIGH, LOW), NONE);
        due("14 no step", x.about(4), 0);
        // 283 mod 6 = 1: GOER 283 mod 3 = 1 goes ROAD 47 mod 5 = 2
        due("14 one", x.years(0, 1), 0);
        due("14 goer 1", x.ofGoer(1, 0), 2);
        due("14 road 2: 5 - 4", x.of(2, 3), 1);
        due("14 X", x.is(1), 1587);
        due("14 a step", x.about(4), 1);
        // 1587 mod 6 = 3: COILED by 1 + 3; 8154 mod 6 = 0: GOER 0 goes ROAD 1359 mod 5 = 4, it can't
        due("14 three, X is set anew", x.years(0, 3), 0);
        due("14 coil", x.is(3), 24);
        due("14 went", x.ofGoer(0, 2) + x.ofGoer(1, 2) + x.ofGoer(2, 2), 1);
        due("14 X", x.is(1), 5244);
        // 5244 mod 6 = 0, 11278 mod 6 = 4: a DAY
        due("14 a day", x.years(0, 5), 1);
        due("14 one step each", x.about(4), 3);
        x.undo();
        due("14 day taken back", x.is(0), 0);
        due("14 X taken back", x.is(1), 5244);
        // seed 9999: X = 20281, mod 6 = 1, GOER 1 by ROAD 3380 mod 5 = 0: it is in 2 or 0
        due("14 the highest", x.years(9999, 1), 0);
        due("14 X of the highest", x.is(1), (20281 * 547 + 421) % 30727);
    }

    private static void p14YearsOfNothing() {
        LiquoriceRoads x = new LiquoriceRoads();
        int drawn = 283;
        int days = 0;
        int coil = 20;
        for (int i = 0; i < 40; i++) {
            int seen = drawn;
            drawn = (drawn * 547 + 421) % 30727;
            if (seen % 6 == 3) {
                coil += 1 + seen % 9;
            } else if (seen % 6 > 3) {
                days++;
                drawn = (drawn * 547 + 421) % 30727;
            }
        }
        due("14 none of roads and goers", x.years(0, 40), days);
        due("14 coil", x.is(3), coil);
        due("14 X", x.is(1), drawn);
        LiquoriceRoads y = small();
        y.go(0, 0);
        y.by(Tapes.text(y, "sucks 99;"));
        // X is odd at first, so 2 comes with the second at the earliest; the first can't be
        int seed = 0;
        while ((seed * 2 + 283) % 6 != 1 || ((seed * 2 + 283) * 547 + 421) % 30727 % 6 != 2) {
            seed++;
        }
        due("14 a goer that can't", y.years(seed, 1), 0);
        due("14 thick", y.of(0, 3), 7);
        due("14 then it is laid anew", y.years(seed, 2), 0);
        due("14 thick", y.of(0, 3), 9);
        due("14 coil", y.is(3), 18);
    }

    /** 283, 1587: nothing can go, COILED by 4; 8154, 5244, then 11278: a DAY. */
    private static void p14YearsOfCoil() {
        for (int full = 990; full <= 999; full++) {
            LiquoriceRoads x = new LiquoriceRoads();
            for (int i = 0; i < 9; i++) {
                x.coil(99);
            }
            x.coil(full - 911);
            x.years(0, 2);
            due("14 coil of " + full, x.is(3), full + 4 <= 999 ? full + 4 : full);
        }
    }

    private static void p15Undo() {
        LiquoriceRoads x = new LiquoriceRoads();
        due("15 none", x.undo(), NONE);
        for (int i = 0; i < 31; i++) {
            x.coil(1);
        }
        due("15 thirty", x.about(4), 30);
        for (int i = 29; i >= 0; i--) {
            due("15 yet", x.undo(), i);
            due("15 coil", x.is(3), 21 + i);
        }
        due("15 no more", x.undo(), NONE);
        due("15 the first stays", x.is(3), 21);
        LiquoriceRoads y = small();
        y.go(0, 0);
        y.relay(0);
        y.day(1);
        due("15 two yet", y.undo(), 2);
        due("15 X", y.is(1), 283);
        due("15 day", y.is(0), 0);
        due("15 where", y.ofGoer(0, 0), 1);
        due("15 went", y.ofGoer(0, 2), 1);
        due("15 book", y.book(NONE, 0), 1);
        due("15 relay", y.undo(), 1);
        due("15 coil", y.is(3), 20);
        due("15 thick", y.of(0, 3), 7);
        due("15 go", y.undo(), 0);
        due("15 thick", y.of(0, 3), 9);
        due("15 where", y.ofGoer(0, 0), 0);
        due("15 book", y.book(NONE, 0), 0);
    }

    private static void p15UndoTold() {
        LiquoriceRoads x = small();
        x.go(0, 0);
        x.road(1, 2, 3, 7);
        x.goer(2, 9);
        x.go(1, 1);
        x.go(0, 1);
        due("15 yet", x.undo(), 2);
        due("15 road 1", x.of(1, 3), 3);
        due("15 yet", x.undo(), 1);
        due("15 road 1 is as told", x.of(1, 3), 7);
        due("15 goer 1 is as told", x.ofGoer(1, 0), 2);
        due("15 yet", x.undo(), 0);
        due("15 roads told since stay", x.about(0), 2);
        due("15 road 1 is as told", x.of(1, 3), 7);
        due("15 goer 1 is as told", x.ofGoer(1, 0), 2);
        due("15 goer 1 never went", x.ofGoer(1, 2), 0);
        due("15 road 0", x.of(0, 3), 9);
        LiquoriceRoads y = small();
        for (int i = 0; i < 31; i++) {
            y.coil(1);
        }
        y.go(0, 0);
        y.day(40);
        for (int i = 29; i >= 0; i--) {
            due("15 days back", y.undo(), i);
            due("15 day", y.is(0), 10 + i);
        }
        due("15 book of forty days and a going", y.book(NONE, 0) > 0, true);
    }

    private static void p16Of() {
        LiquoriceRoads x = ruled("swells 3 + way;");
        x.road(5, 2, 7, 44);
        x.road(0, 1, 1, 2);
        int[] want = {5, 2, 7, 44, 44, 3};
        for (int what = 0; what < 6; what++) {
            due("16 of " + what, x.of(0, what), want[what]);
        }
        due("16 swells of road 1", x.of(1, 5), 4);
        due("16 what", x.of(0, 6), NONE);
        due("16 what", x.of(0, -1), NONE);
        due("16 road", x.of(2, 0), NONE);
        due("16 road", x.of(-1, 0), NONE);
        x.goer(5, 3);
        x.go(0, 0);
        due("16 thick now", x.of(0, 3), 42);
        due("16 thick at first", x.of(0, 4), 44);
        x.by(NONE);
        due("16 swells without a law is rain", x.of(0, 5), 0);
        LiquoriceRoads y = ruled("swells 100;");
        y.road(0, 1, 1, 50);
        due("16 nine at most, whatever is missing", y.of(0, 5), 9);
        LiquoriceRoads z = ruled("swells -1;");
        z.road(0, 1, 1, 50);
        due("16 none at least", z.of(0, 5), 0);
    }

    private static void p17OfGoer() {
        LiquoriceRoads x = shire();
        x.goer(2, 6);
        due("17 where", x.ofGoer(0, 0), 2);
        due("17 mouth", x.ofGoer(0, 1), 6);
        due("17 went", x.ofGoer(0, 2), 0);
        due("17 roads", x.ofGoer(0, 3), 14);
        x.go(0, 3);
        due("17 where", x.ofGoer(0, 0), 3);
        due("17 went", x.ofGoer(0, 2), 1);
        due("17 roads", x.ofGoer(0, 3), 8);
        x.go(0, 3);
        due("17 road 3 has none left", x.ofGoer(0, 3), 6);
        due("17 what", x.ofGoer(0, 4), NONE);
        due("17 what", x.ofGoer(0, -1), NONE);
        due("17 goer", x.ofGoer(1, 0), NONE);
        due("17 goer", x.ofGoer(-1, 0), NONE);
    }

    private static void law(String sum, int want) {
        LiquoriceRoads x = ruled("sucks " + sum + ";");
        x.road(0, 1, 4, 30);
        x.road(1, 2, 3, 12);
        x.goer(0, 7);
        due("18 sucks " + sum, x.sucks(0, 0), want);
    }

    private static void p18Sucks() {
        LiquoriceRoads x = new LiquoriceRoads();
        x.road(0, 1, 1, 1);
        for (int mouth = 1; mouth <= 6; mouth++) {
            due("18 no such goer", x.sucks(mouth - 1, 0), NONE);
            x.goer(3, mouth);
            due("18 without a law", x.sucks(mouth - 1, 0), new int[] {1, 1, 2, 2, 2, 3}[mouth - 1]);
        }
        due("18 no such road", x.sucks(0, 1), NONE);
        due("18 no such road", x.sucks(0, -1), NONE);
        due("18 no such goer", x.sucks(-1, 0), NONE);
        due("18 no such goer", x.sucks(6, 0), NONE);
        Object[][] laws = {{"1+2*3", 7}, {"(1+2)*3", 9}, {"7-2-1", 4}, {"100/7/2", 7}, {"7/0+5", 5}, {"-7/2+10", 7}, {"7/-2+10", 7},
            {"0/5", 0}, {"3-4", 0}, {"99", 99}, {"100", 99}, {"9999", 99}, {"2*3/4*5", 5}, {"--5", 5}, {"-5+9", 4}, {"-(5+9)+20", 6},
            {"common 12 of 18", 6}, {"common -12 of 18", 6}, {"common 12 of -18", 6}, {"common 0 of 0", 0}, {"common 0 of 5", 5},
            {"common 5 of 0", 5}, {"common 7 of 9", 1}, {"common 9999 of 9999-9944", 55}, {"common 12 of 18*2", 12},
            {"roads 0", 30}, {"roads 1", 12}, {"roads 2", 0}, {"roads -1", 0}, {"roads 1+1", 13}, {"roads (1+1)", 0}, {"roads 9999", 0},
            {"roads roads 5", 30}, {"9999*9999-9999*99-9999-19-80", 1}, {"9999*9999/9999-60", 40},
            {"9999*9999+1-9999*9999", 0}, {"-(9999*9999)-5+9999*9999", 0}, {"-(9999*9999)/9999+110", 10},
            {"if 1<2 then 5 else 6 end", 5}, {"if 2<2 then 5 else 6 end", 6}, {"if 2<=2 then 5 else 6 end", 5},
            {"if 3<=2 then 5 else 6 end", 6}, {"if 2>2 then 5 else 6 end", 6}, {"if 3>2 then 5 else 6 end", 5},
            {"if 2>=2 then 5 else 6 end", 5}, {"if 1>=2 then 5 else 6 end", 6}, {"if 2=2 then 5 else 6 end", 5},
            {"if 2=3 then 5 else 6 end", 6}, {"if 2#3 then 5 else 6 end", 5}, {"if 2#2 then 5 else 6 end", 6},
            {"if 1=2 or 3#4 and not 1>2 then 5 else 6 end", 5}, {"if 1=1 or 1=1 and 1=2 then 5 else 6 end", 5},
            {"if 1=2 and 1=1 or 1=1 then 5 else 6 end", 5}, {"if not 1<2 and 1=2 then 5 else 6 end", 6},
            {"if not not 1<2 then 3 else 4 end", 3}, {"if not 1<2 or 1=1 then 3 else 4 end", 3},
            {"if not 1<=2 then 5 else 6 end", 6}, {"if not 2>=1 then 5 else 6 end", 6}, {"if not 1=1 then 5 else 6 end", 6},
            {"if not 1#2 then 5 else 6 end", 6}, {"if not 2>1 then 5 else 6 end", 6}, {"if not 1#1 then 5 else 6 end", 5},
            {"if 1<=2 and 2>=1 and 1=1 and 1#2 and 2>1 and 1<2 then 5 else 6 end", 5},
            {"1+if 1<2 then if 2<1 then 3 else 4 end else 5 end*2", 9}, {"if 1+1=2*1 then 1+1 else 2 end+1", 3}};
        for (Object[] law : laws) {
            law((String) law[0], (int) law[1]);
        }
    }

    private static void p18SucksNames() {
        law("mouth", 7);
        law("way", 0);
        law("long", 4);
        law("thick", 30);
        law("who+1", 1);
        law("went+1", 1);
        law("day+1", 1);
        law("rain+1", 1);
        LiquoriceRoads x = ruled("sucks day*10+rain*5+way*20+who*3+went; swells 0;");
        x.road(0, 1, 1, 99);
        x.road(0, 1, 1, 99);
        x.goer(0, 1);
        x.goer(0, 1);
        due("18 way and who", x.sucks(1, 1), 23);
        due("18 of nothing", x.sucks(0, 0), 0);
        x.go(1, 0);
        due("18 went", x.sucks(1, 1), 24);
        x.day(1);
        due("18 day", x.sucks(0, 0), 10 + x.is(2) * 5 + x.ofGoer(0, 2));
        LiquoriceRoads y = ruled("sucks roads 1; swells thick;");
        y.road(0, 1, 1, 9);
        y.road(0, 1, 1, 5);
        y.goer(0, 1);
        due("18 another road's", y.sucks(0, 0), 5);
        y.go(0, 1);
        due("18 as thick as it is now", y.sucks(0, 0), 0);
    }

    private static void p19Is() {
        LiquoriceRoads x = small();
        due("19 what", x.is(-1), -2);
        due("19 what", x.is(4), -2);
        x.coil(3);
        due("19 coil", x.is(3), 23);
        int wet = 0;
        for (int i = 1; i <= 30; i++) {
            x.day(1);
            wet += x.is(2);
            due("19 day", x.is(0), i);
        }
        due("19 it rains at times", wet > 0 && wet < 30, true);
    }

    private static void p20Book() {
        LiquoriceRoads x = ruled("sucks went;");
        x.road(0, 1, 1, 99);
        x.road(0, 1, 1, 99);
        x.road(0, 1, 1, 99);
        for (int i = 0; i < 6; i++) {
            x.goer(0, 1);
        }
        due("20 none", x.book(0, 0), -2);
        due("20 how many", x.book(NONE, 0), 0);
        x.go(3, 1);
        x.go(3, 2);
        due("20 two", x.book(NONE, 0), 2);
        due("20 day", x.book(1, 0), 0);
        due("20 goer", x.book(1, 1), 3);
        due("20 road", x.book(1, 2), 2);
        due("20 sucked", x.book(1, 3), 1);
        due("20 the eldest", x.book(0, 2), 1);
        due("20 what", x.book(0, 4), -2);
        due("20 what", x.book(0, -1), -2);
        due("20 no such", x.book(2, 0), -2);
        due("20 no such", x.book(-2, 0), -2);
        for (int i = 0; i < 9; i++) {
            x.go(4, 0);
        }
        x.day(1);
        for (int i = 0; i < 20; i++) {
            x.go(5, i % 2);
        }
        due("20 thirty at most", x.book(NONE, 0), 30);
        due("20 the latest", x.book(29, 1), 5);
        due("20 its day", x.book(29, 0), 1);
        due("20 no 31st", x.book(30, 0), -2);
        LiquoriceRoads y = ruled("sucks 99;");
        y.road(0, 7, 1, 99);
        y.goer(7, 1);
        y.go(0, 0);
        due("20 ninety-nine", y.book(0, 3), 99);
    }

    private static void p21Foretold() {
        LiquoriceRoads x = small();
        due("21 thick", x.foretold(1, 0, 0), 7);
        due("21 thick", x.foretold(4, 0, 0), 1);
        due("21 where", x.foretold(1, 1, 0), 1);
        due("21 where", x.foretold(2, 1, 0), 0);
        due("21 went", x.foretold(3, 2, 0), 3);
        due("21 n", x.foretold(0, 0, 0), NONE);
        due("21 n", x.foretold(61, 0, 0), NONE);
        due("21 what", x.foretold(1, 3, 0), NONE);
        due("21 what", x.foretold(1, -1, 0), NONE);
        due("21 road", x.foretold(1, 0, 1), NONE);
        due("21 goer", x.foretold(1, 1, 1), NONE);
        due("21 goer", x.foretold(1, 2, -1), NONE);
        due("21 nothing is changed: X", x.is(1), 283);
        due("21 nothing is changed: day", x.is(0), 0);
        due("21 nothing is changed: thick", x.of(0, 3), 9);
        due("21 nothing is changed: steps", x.about(4), 0);
        due("21 nothing is changed: book", x.book(NONE, 0), 0);
        int seen = x.foretold(60, 0, 0);
        x.day(60);
        due("21 so it comes", x.of(0, 3), seen);
    }

    private static void p22Miles() {
        LiquoriceRoads x = shire();
        due("22 miles", x.miles(0, 2, 0), 7);
        due("22 to and fro", x.miles(2, 0, 5), 7);
        due("22 as thick", x.miles(0, 2, 8), 7);
        due("22 thinner", x.miles(0, 2, 9), NONE);
        due("22 three roads", x.miles(0, 3, 6), 9);
        due("22 none", x.miles(0, 4, 0), NONE);
        due("22 to itself", x.miles(7, 7, 99), 0);
        int[][] wrong = {{-1, 0, 0}, {8, 0, 0}, {0, -1, 0}, {0, 8, 0}, {0, 1, -1}, {0, 1, 100}, {8, 8, 0}, {0, 0, 100}};
        for (int[] w : wrong) {
            due("22 wrong", x.miles(w[0], w[1], w[2]), NONE);
        }
        emptied(x, 1);
        due("22 thick 1 goes round", x.miles(0, 2, 1), 9);
        due("22 thick 0 takes what has nothing", x.miles(0, 2, 0), 7);
        LiquoriceRoads y = new LiquoriceRoads();
        for (int town = 0; town < 7; town++) {
            y.road(6 - town, 7 - town, 9, 1);
        }
        due("22 seven roads", y.miles(0, 7, 1), 63);
    }

    private static void p23Way() {
        LiquoriceRoads x = new LiquoriceRoads();
        x.road(1, 3, 2, 9);
        x.road(0, 2, 1, 9);
        x.road(2, 3, 2, 5);
        x.road(0, 1, 1, 9);
        x.road(0, 3, 3, 3);
        x.road(3, 0, 3, 2);
        due("23 lowest first road", x.way(0, 3, 0, 0), 1);
        due("23 then", x.way(0, 3, 0, 1), 2);
        due("23 no third", x.way(0, 3, 0, 2), -2);
        due("23 thick 6", x.way(0, 3, 6, 0), 3);
        due("23 thick 6, then", x.way(0, 3, 6, 1), 0);
        due("23 from the other side", x.way(3, 0, 0, 0), 0);
        due("23 from the other side", x.way(3, 0, 0, 1), 3);
        due("23 none", x.way(0, 7, 0, 0), -2);
        due("23 to itself", x.way(0, 0, 0, 0), -2);
        due("23 i", x.way(0, 3, 0, -1), -2);
        due("23 i", x.way(0, 3, 0, HIGH), -2);
        due("23 town", x.way(-1, 3, 0, 0), -2);
        due("23 town", x.way(0, 8, 0, 0), -2);
        due("23 thick", x.way(0, 3, 100, 0), -2);
        due("23 thick", x.way(0, 3, -1, 0), -2);
        LiquoriceRoads y = new LiquoriceRoads();
        for (int town = 0; town < 7; town++) {
            y.road(town, town + 1, 1, 1);
        }
        due("23 the seventh", y.way(0, 7, 1, 6), 6);
        due("23 no eighth", y.way(0, 7, 1, 7), -2);
    }

    private static void p24Widest() {
        LiquoriceRoads x = shire();
        due("24 round", x.widest(0, 2), 8);
        due("24 fro", x.widest(2, 0), 8);
        due("24 through", x.widest(0, 3), 6);
        due("24 none", x.widest(0, 4), NONE);
        due("24 like", x.widest(1, 1), NONE);
        due("24 wrong", x.widest(-1, 1), NONE);
        due("24 wrong", x.widest(1, 8), NONE);
        emptied(x, 4);
        due("24 a way of nothing", x.widest(4, 5), 0);
        x.road(4, 5, 9, 99);
        due("24 the greatest", x.widest(4, 5), 99);
        LiquoriceRoads y = new LiquoriceRoads();
        for (int town = 7; town > 0; town--) {
            y.road(town, town - 1, 9, 90 + town);
        }
        due("24 seven roads", y.widest(0, 7), 91);
        due("24 seven roads", y.widest(7, 0), 91);
    }

    private static void p25FlowAnd26Cut() {
        LiquoriceRoads x = shire();
        due("25 flow", x.flow(0, 2), 13);
        due("26 cut", x.cut(0, 2), 3);
        due("25 fro", x.flow(2, 0), 13);
        due("26 fro", x.cut(2, 0), 12);
        due("25 through", x.flow(0, 3), 6);
        due("26 through", x.cut(0, 3), 7);
        due("26 fro", x.cut(3, 0), 8);
        due("25 none", x.flow(7, 6), 0);
        due("26 none", x.cut(7, 6), 128);
        due("25 like", x.flow(1, 1), NONE);
        due("26 like", x.cut(1, 1), NONE);
        due("25 wrong", x.flow(8, 1), NONE);
        due("25 wrong", x.flow(1, -1), NONE);
        due("26 wrong", x.cut(8, 1), NONE);
        due("26 wrong", x.cut(1, -1), NONE);
        LiquoriceRoads y = new LiquoriceRoads();
        y.road(0, 1, 1, 3);
        y.road(1, 2, 1, 3);
        due("26 of like ones the lowest set", y.cut(0, 2), 1);
        due("26 fro", y.cut(2, 0), 4);
        y.road(0, 2, 1, 99);
        due("25 together", y.flow(0, 2), 102);
    }

    private static void p27Tree() {
        LiquoriceRoads x = shire();
        due("27 length", x.tree(false), 10);
        due("27 roads", x.tree(true), 27);
        x.road(2, 0, 3, 1);
        due("27 shorter", x.tree(false), 9);
        due("27 by number", x.tree(true), 2 + 8 + 16 + 32);
        emptied(x, 5);
        due("27 of the net", x.tree(true), 27);
        LiquoriceRoads y = new LiquoriceRoads();
        due("27 none", y.tree(true) + y.tree(false), 0);
        y.road(0, 1, 5, 1);
        y.road(0, 1, 5, 1);
        due("27 the lower of like ones", y.tree(true), 1);
    }

    private static void p28BridgesAnd31Pieces() {
        LiquoriceRoads x = shire();
        due("28 bridges", x.bridges(), 24);
        due("31 pieces", x.pieces(), 2);
        x.road(3, 2, 1, 1);
        due("28 two roads are no bridge", x.bridges(), 16);
        emptied(x, 0);
        due("28 the ring is broken", x.bridges(), 2 + 4 + 16);
        due("31 pieces", x.pieces(), 2);
        x.road(6, 7, 1, 1);
        due("31 a third", x.pieces(), 3);
        emptied(x, 4);
        due("31 one is gone", x.pieces(), 2);
        LiquoriceRoads y = new LiquoriceRoads();
        due("28 none", y.bridges(), 0);
        due("31 none", y.pieces(), 0);
    }

    private static void p29Carter() {
        LiquoriceRoads x = shire();
        due("29 not all can be come to", x.carter(0), NONE);
        emptied(x, 4);
        // the tail twice: 4 + 3 + 9 + 2 + 2
        due("29 round", x.carter(0), 20);
        due("29 from the tail", x.carter(3), 20);
        due("29 no road there", x.carter(4), NONE);
        due("29 no road there", x.carter(7), NONE);
        due("29 wrong", x.carter(8), NONE);
        due("29 wrong", x.carter(-1), NONE);
        due("29 none", new LiquoriceRoads().carter(0), NONE);
        LiquoriceRoads y = new LiquoriceRoads();
        // a star of three: each twice
        y.road(0, 1, 1, 1);
        y.road(0, 2, 2, 1);
        y.road(0, 3, 4, 1);
        due("29 a star", y.carter(2), 14);
        // 1-2 is long: 1 and 2 are even now, 0 and 3 are odd
        y.road(1, 2, 9, 1);
        due("29 pairs", y.carter(1), 20);
    }

    private static void p30Centre() {
        LiquoriceRoads x = shire();
        due("30 the small piece", x.centre(), 4);
        emptied(x, 4);
        // from 1: 4, 3, 5
        due("30 the ring", x.centre(), 1);
        due("30 none", new LiquoriceRoads().centre(), NONE);
        LiquoriceRoads y = new LiquoriceRoads();
        y.road(5, 3, 2, 1);
        y.road(3, 6, 2, 1);
        y.road(6, 4, 2, 1);
        due("30 of like ones the lowest", y.centre(), 3);
    }

    private static void p35Watch() {
        LiquoriceRoads x = shire();
        due("35 towns", x.watch(false), 21);
        due("35 how many", x.watch(true), 3);
        emptied(x, 4);
        due("35 of the net", x.watch(false), 5);
        LiquoriceRoads y = new LiquoriceRoads();
        due("35 none", y.watch(false) + y.watch(true), 0);
        for (int town = 0; town < 7; town++) {
            y.road(town, 7, 1, 1);
        }
        due("35 a star", y.watch(false), 128);
        due("35 one", y.watch(true), 1);
    }

    private static void p36Colours() {
        LiquoriceRoads x = shire();
        due("36 a ring of three", x.colours(), 3);
        emptied(x, 2);
        due("36 a path", x.colours(), 2);
        LiquoriceRoads y = new LiquoriceRoads();
        due("36 without roads", y.colours(), 1);
        int[] want = {1, 2, 3, 4, 5};
        for (int n = 1; n < 6; n++) {
            due("36 all joined " + n, y.colours(), want[n - 1]);
            for (int town = 0; town < n; town++) {
                y.road(town, n, 1, 1);
            }
        }
        due("36 six all joined", y.colours(), 6);
        LiquoriceRoads z = new LiquoriceRoads();
        for (int town = 0; town < 7; town++) {
            z.road(town, (town + 1) % 7, 1, 1);
        }
        due("36 an odd ring", z.colours(), 3);
        for (int town = 0; town < 7; town++) {
            z.road(town, 7, 1, 1);
        }
        due("36 a wheel", z.colours(), 4);
    }

    private static void likely(LiquoriceRoads x, int town, int n, int to, long up, long low) {
        due("37 upper " + town + " " + n + " " + to, x.likely(town, n, to, false), up);
        due("37 lower " + town + " " + n + " " + to, x.likely(town, n, to, true), low);
    }

    private static void p37Likely() {
        LiquoriceRoads x = shire();
        likely(x, 0, 0, 0, 1, 1);
        likely(x, 0, 0, 1, 0, 1);
        likely(x, 0, 1, 1, 1, 2);
        likely(x, 2, 1, 3, 1, 3);
        likely(x, 0, 2, 0, 5, 12);
        likely(x, 0, 2, 3, 1, 6);
        likely(x, 3, 3, 3, 0, 1);
        likely(x, 3, 2, 3, 1, 3);
        likely(x, 7, 3, 7, 1, 1);
        likely(x, 7, 3, 6, 0, 1);
        emptied(x, 3);
        likely(x, 3, 1, 3, 1, 1);
        likely(x, 2, 1, 0, 1, 2);
        x.road(0, 2, 1, 1);
        // from 0 two of three roads lead to 2
        likely(x, 0, 1, 2, 2, 3);
        int[][] wrong = {{-1, 0, 0}, {8, 0, 0}, {0, -1, 0}, {0, 4, 0}, {0, 0, -1}, {0, 0, 8}, {LOW, HIGH, 3}};
        for (int[] w : wrong) {
            due("37 wrong", x.likely(w[0], w[1], w[2], true), NONE);
            due("37 wrong", x.likely(w[0], w[1], w[2], false), NONE);
        }
    }

    private static void p38Ring() {
        LiquoriceRoads x = shire();
        due("38 ring", x.ring(1), 16);
        due("38 none", x.ring(3), NONE);
        due("38 none", x.ring(4), NONE);
        due("38 none", x.ring(7), NONE);
        due("38 wrong", x.ring(8), NONE);
        due("38 wrong", x.ring(-1), NONE);
        x.road(2, 3, 9, 1);
        due("38 two roads", x.ring(3), 11);
        due("38 the shorter", x.ring(2), 11);
        due("38 the longer", x.ring(0), 16);
        emptied(x, 0);
        due("38 broken", x.ring(0), NONE);
    }

    private static void p44Lonely() {
        LiquoriceRoads x = shire();
        due("44 lonely", x.lonely(), 192);
        emptied(x, 4);
        due("44 of the net", x.lonely(), 240);
        due("44 all", new LiquoriceRoads().lonely(), 255);
    }

    private static void p32Times() {
        LiquoriceRoads x = shire();
        x.goer(7, 5);
        due("32 ten by two", x.times(0, 0), 5);
        due("32 eight by two", x.times(0, 1), 4);
        due("32 five by two", x.times(0, 2), 2);
        due("32 one by two", x.times(0, 4), 0);
        due("32 goer", x.times(1, 0), NONE);
        due("32 goer", x.times(-1, 0), NONE);
        due("32 road", x.times(0, 5), NONE);
        due("32 road", x.times(0, -1), NONE);
        due("32 nothing is changed", x.of(0, 3), 10);
        LiquoriceRoads y = ruled("sucks (roads way+1)/2;");
        y.road(0, 1, 1, 20);
        y.goer(0, 1);
        // 20, 10, 5, 2, 1, 0, and then nothing is sucked
        due("32 as then, 99 at most", y.times(0, 0), 99);
        LiquoriceRoads z = ruled("sucks if went=0 then thick/2+1 else 0 end;");
        z.road(0, 1, 1, 20);
        z.goer(0, 1);
        // 20 - 11, 9 - 5, 4 - 3, 1 - 1, then 1 of 0
        due("32 went as now", z.times(0, 0), 4);
    }

    private static void p33Crowd() {
        LiquoriceRoads x = shire();
        due("33 nobody", x.crowd(0, NONE), 0);
        due("33 nobody", x.crowd(0, 0), -2);
        x.goer(7, 5);
        x.goer(6, 9);
        x.goer(5, 1);
        due("33 all of ten", x.crowd(0, NONE), 3);
        for (int i = 0; i < 3; i++) {
            due("33 in order", x.crowd(0, i), i);
        }
        due("33 two of five", x.crowd(2, NONE), 2);
        due("33 first", x.crowd(2, 0), 0);
        due("33 second", x.crowd(2, 1), 2);
        due("33 no third", x.crowd(2, 2), -2);
        due("33 i", x.crowd(2, -2), -2);
        due("33 road", x.crowd(5, NONE), -2);
        due("33 road", x.crowd(-1, 0), -2);
        due("33 nothing is changed", x.of(2, 3), 5);
        // the first wants much left: 0 must go ahead of others; 1 sucks but little when it is thin
        LiquoriceRoads y = ruled("sucks if who=0 then 4 else if thick>5 then 6 else 1 end end;");
        y.road(0, 1, 1, 9);
        y.goer(0, 1);
        y.goer(0, 1);
        y.goer(0, 1);
        due("33 in some order", y.crowd(0, NONE), 3);
        LiquoriceRoads u = ruled("sucks who*98+1;");
        u.road(0, 1, 1, 99);
        u.goer(0, 1);
        u.goer(0, 1);
        due("33 nobody goes twice", u.crowd(0, NONE), 1);
        due("33 first", y.crowd(0, 0), 0);
        LiquoriceRoads z = ruled("sucks if who=2 then 5 else if thick>5 then 7 else 2 end end;");
        z.road(0, 1, 1, 9);
        z.goer(0, 1);
        z.goer(0, 1);
        z.goer(0, 1);
        due("33 another order", z.crowd(0, NONE), 3);
        due("33 the last one first", z.crowd(0, 0), 2);
        due("33 then the lowest", z.crowd(0, 1), 0);
        due("33 then", z.crowd(0, 2), 1);
    }

    private static void p34Who() {
        LiquoriceRoads x = small();
        due("34 not in the image", x.who(0), NONE);
        x.image();
        due("34 nobody", x.who(0), 1);
        x.go(0, 0);
        due("34 once", x.who(0), 1);
        x.goer(5, 1);
        // 2 = one of two, or two of one
        due("34 goers told since too", x.who(0), 2);
        x.goer(5, 1);
        // 2 by goer 0; by 1 and 2: 2 + 0, 1 + 1, 0 + 2
        due("34 ways", x.who(0), 4);
        due("34 wrong", x.who(1), NONE);
        due("34 wrong", x.who(-1), NONE);
        x.road(0, 1, 1, 1);
        due("34 told since", x.who(1), NONE);
        x.image();
        due("34 nothing more", x.who(0), 1);
        x.relay(0);
        due("34 it is thicker", x.who(0), 0);
        LiquoriceRoads y = ruled("sucks thick-8;");
        y.road(0, 1, 1, 9);
        y.goer(0, 1);
        y.image();
        y.go(0, 0);
        due("34 sucks as then: 1, now 0", y.sucks(0, 0), 0);
        due("34 by what it was", y.who(0), 1);
        LiquoriceRoads z = ruled("sucks 0;");
        z.road(0, 1, 1, 9);
        for (int i = 0; i < 6; i++) {
            z.goer(0, 1);
        }
        z.image();
        due("34 four each", z.who(0), 4096);
        LiquoriceRoads u = ruled("sucks 1;");
        u.road(0, 1, 1, 9);
        u.goer(0, 1);
        u.image();
        for (int i = 0; i < 4; i++) {
            u.go(0, 0);
        }
        due("34 three times at most", u.who(0), 0);
        due("34 nothing is changed", u.of(0, 3), 5);
    }

    private static void p39Stranded() {
        LiquoriceRoads x = shire();
        due("39 nobody", x.stranded(), 0);
        x.goer(7, 1);
        x.goer(0, 1);
        x.goer(4, 3);
        x.goer(4, 2);
        // no road in 7; 2 of 1 can't be sucked in 4
        due("39 two", x.stranded(), 5);
        x.go(3, 4);
        due("39 the road is gone", x.stranded(), 13);
    }

    private static void p40SaidAnd41Whose() {
        LiquoriceRoads x = shire();
        due("41 no texts", x.whose(), 0);
        x.goer(0, 5);
        Tapes.text(x, "sucks 2;");
        Tapes.text(x, "swells 2;");
        Tapes.text(x, "sucks if way=1 then 3 else 2 end;");
        due("41 nothing said: all", x.whose(), 7);
        due("40 first", x.said(0, 0, 2), 1);
        due("41 without a law as well", x.whose(), 7);
        due("40 second", x.said(0, 1, 3), 2);
        due("41 one", x.whose(), 4);
        due("40 third", x.said(0, 4, 99), 3);
        due("41 none", x.whose(), 0);
        due("40 none any more", x.said(NONE, 99, 999), 0);
        due("40 about", x.about(5), 0);
        due("41 all", x.whose(), 7);
        int[][] wrong = {{1, 0, 0}, {-2, 0, 0}, {0, 5, 0}, {0, -1, 0}, {0, 0, -1}, {0, 0, 100}};
        for (int[] w : wrong) {
            due("40 wrong", x.said(w[0], w[1], w[2]), -2);
        }
        for (int i = 1; i <= 8; i++) {
            due("40 said " + i, x.said(0, 0, 0), i);
        }
        due("40 the ninth", x.said(0, 0, 0), -2);
        LiquoriceRoads y = shire();
        y.goer(0, 5);
        y.goer(0, 5);
        Tapes.text(y, "sucks who*10+way;");
        y.said(1, 2, 12);
        y.image();
        y.said(NONE, 0, 0);
        y.said(0, 1, 99);
        due("41 none", y.whose(), 0);
        y.back();
        due("41 as in the image", y.whose(), 1);
        due("40 about", x.about(5), 8);
        due("40 no step", x.about(4), 0);
    }

    private static void p42Thinnest() {
        LiquoriceRoads x = new LiquoriceRoads();
        due("42 none", x.thinnest(), NONE);
        x.road(0, 1, 1, 9);
        x.road(0, 1, 1, 4);
        x.road(0, 1, 1, 4);
        due("42 the lowest of like ones", x.thinnest(), 1);
        emptied(x, 2);
        due("42 with nothing left too", x.thinnest(), 2);
    }

    private static void p43Busiest() {
        LiquoriceRoads x = small();
        x.goer(0, 1);
        due("43 none went", x.busiest(), NONE);
        x.go(1, 0);
        due("43 one", x.busiest(), 1);
        x.go(0, 0);
        due("43 the lowest of like ones", x.busiest(), 0);
        x.go(1, 0);
        due("43 most often", x.busiest(), 1);
        due("43 nobody", new LiquoriceRoads().busiest(), NONE);
    }

    private static void p45Ledger() {
        LiquoriceRoads x = small();
        x.goer(0, 1);
        due("45 nothing", x.ledger(NONE), 0);
        x.go(0, 0);
        x.go(0, 0);
        x.go(1, 0);
        due("45 goer 0", x.ledger(0), 4);
        due("45 goer 1", x.ledger(1), 1);
        due("45 all", x.ledger(NONE), 5);
        due("45 wrong", x.ledger(2), -2);
        due("45 wrong", x.ledger(-2), -2);
        LiquoriceRoads y = ruled("sucks 1;");
        y.road(0, 1, 1, 99);
        y.goer(0, 1);
        for (int i = 0; i < 40; i++) {
            y.go(0, 0);
        }
        due("45 by the book's thirty", y.ledger(0), 30);
    }

    private static void p46ImageAnd47Back() {
        LiquoriceRoads x = small();
        Tapes.text(x, "sucks 1;");
        x.by(0);
        x.day(3);
        x.said(0, 0, 1);
        int drawn = x.is(1);
        int thick = x.of(0, 3);
        due("46 day", x.image(), 3);
        x.feed(1, 2, 3, 4, 5);
        x.day(5);
        x.road(3, 4, 5, 6);
        x.goer(3, 4);
        x.said(NONE, 0, 0);
        x.said(1, 1, 9);
        x.said(1, 1, 8);
        x.coil(9);
        x.by(NONE);
        due("47 day", x.back(), 3);
        due("47 X", x.is(1), drawn);
        due("47 coil", x.is(3), 20);
        due("47 roads", x.about(0), 1);
        due("47 goers", x.about(1), 1);
        due("47 the text", x.about(3), 0);
        due("47 steps", x.about(4), 3);
        due("47 said", x.about(5), 1);
        due("47 what was said", x.whose(), 1);
        due("47 the tape stays", x.about(6), 20);
        due("47 book", x.book(NONE, 0), 3);
        due("47 thick", x.of(0, 3), thick);
        due("47 a road anew", x.road(6, 7, 2, 3), 1);
        due("47 its thick", x.of(1, 3), 3);
        x.end(0);
        due("47 a text anew", Tapes.text(x, "sucks 7;"), 1);
        Tapes.text(x, "sucks;");
        due("47 back again", x.back(), 3);
        due("47 the image stays", x.about(0), 1);
        due("47 texts", x.about(2), 1);
        due("47 the latest fault stays", x.fault(0), 1);
        due("46 a later image", x.day(1) >= 0 && x.image() == 4, true);
        x.day(1);
        due("47 the later one", x.back(), 4);
    }

    private static void p46ImageKeepsSteps() {
        LiquoriceRoads x = new LiquoriceRoads();
        x.coil(1);
        x.coil(2);
        x.coil(4);
        x.image();
        x.undo();
        x.undo();
        x.coil(50);
        x.coil(60);
        x.coil(70);
        x.coil(80);
        x.back();
        due("47 coil", x.is(3), 27);
        due("47 steps", x.about(4), 3);
        due("47 undo", x.undo(), 2);
        due("47 coil", x.is(3), 23);
        due("47 undo", x.undo(), 1);
        due("47 coil", x.is(3), 21);
        due("47 undo", x.undo(), 0);
        due("47 coil", x.is(3), 20);
        due("47 none", x.undo(), NONE);
        x.coil(9);
        due("47 back once more", x.back(), 0);
        due("47 steps", x.about(4), 3);
        due("47 coil", x.is(3), 27);
    }

    private static void p48About() {
        LiquoriceRoads x = small();
        x.road(1, 2, 3, 4);
        Tapes.text(x, "coil 1;");
        Tapes.text(x, "coil 2;");
        Tapes.text(x, "coil 3;");
        x.by(1);
        x.coil(1);
        x.coil(1);
        x.coil(1);
        x.coil(1);
        x.said(0, 0, 1);
        x.said(0, 0, 1);
        x.said(0, 0, 1);
        x.said(0, 0, 1);
        x.said(0, 0, 1);
        x.feed(0, 0, 0, 0, 0);
        int[] want = {2, 1, 3, 1, 4, 5, 20};
        for (int what = 0; what < 7; what++) {
            due("48 about " + what, x.about(what), want[what]);
        }
        due("48 wrong", x.about(7), -2);
        due("48 wrong", x.about(-1), -2);
    }
}
