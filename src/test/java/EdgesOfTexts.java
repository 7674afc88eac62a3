/** Boundary cases of section II, the language of TEXTS, a test for each sentence. */
final class EdgesOfTexts extends Edges {
    private EdgesOfTexts() {
    }

    static void run() {
        p06Texts();
        p07Blanks();
        p07Letters();
        p07Numbers();
        p07Signs();
        p06NoClauses();
        p06ManyClauses();
        p07ClauseForms();
        p18Sum();
        p18Product();
        p18One();
        p18Common();
        p18Roads();
        p18If();
        p18Either();
        p18Both();
        p18Ask();
        p18Names();
        p16Names();
        p18FromTheLeft();
        p18Parts();
        p18Limits();
        p18BothSides();
        p07FirstFault();
        p07LeastFault();
        p07NoToken();
        p07FaultOfNumbers();
        p07FaultOfFarNumbers();
        p07FaultOfDepth();
        p07FaultOfDepthClosed();
        p07FaultOfDepthCommon();
        p07FaultOfSecondLaw();
        p07FaultOfName();
        p07FaultOf25th();
        p08Rules();
        p18Held();
        p18Without();
        p16Held();
        p16Without();
        p13Played();
        p13PlayedRefused();
        p13PlayedDays();
    }

    private static void p06Texts() {
        says(6, "TEXTS 0 .. 3: of up to 300 bytes");
        LiquoriceRoads x = new LiquoriceRoads();
        due("300 bytes, mostly blanks", Tapes.text(x, " ".repeat(293) + "coil 1;"), 0);
        due("all is done", x.played(0), NONE);
        due("the last clause too", x.is(3), 21);
        String long300 = "sucks 5" + "+1-1".repeat(73) + ";";
        due("it is of 300", long300.length(), 300);
        due("300 bytes without a blank", Tapes.text(x, long300), 1);
        due("none", Tapes.text(x, ""), 2);
        due("the fourth is 3", Tapes.text(x, "sucks 1;"), 3);
        due("there is no fifth", Tapes.text(x, "sucks 1;"), NONE);
        due("four", x.about(2), 4);
        x.road(0, 1, 1, 1);
        x.goer(0, 1);
        x.by(1);
        due("the long sum is 5", x.sucks(0, 0), 5);
        fault("a".repeat(300), 1, 0);
        for (String token : new String[] {";", "(", "-", "?", "1"}) {
            fault(token.repeat(300), 1, 0);
        }
        fault("sucks " + "-".repeat(294), 3, 14);
        fault("coil 1;" + " ".repeat(292) + "a", 1, 299);
        fault("coil 1;" + " ".repeat(287) + "coil 1", 1, 300);
        fault("sucks " + "0".repeat(294), 1, 300);
        sound("sucks " + "0".repeat(293) + ";");
        sound("sucks " + "1*".repeat(146) + "1;");
    }

    private static final String TOKENS = "TOKENS, blanks (32, 10) aside: letters a .. z, A .. Z one behind the other (one TOKEN),"
        + " digits likewise (NUMBERS, 0 .. 9999), <= >= < > = # + - * / ( ) ; (the longest)";

    private static void p07Blanks() {
        says(7, TOKENS);
        sound("\n\n coil\n\n1 \n;\n");
        sound("coil 1;coil 1;");
        for (char other : new char[] {0, 9, 11, 12, 13, 31, 33, 127, 128, 160, 255}) {
            fault("coil" + other + "1;", 1, 4);
        }
        fault("co il 1;", 1, 0);
        fault("coil 1 0;", 1, 7);
        fault("sucks if 1< =1 then 1 else 1 end;", 1, 12);
    }

    /** Behind coil: a letter makes another word of it, a digit a NUMBER of what follows. */
    private static void p07Letters() {
        says(7, TOKENS);
        for (char sign = 0; sign < 256; sign++) {
            String text = "coil" + sign + "1;";
            boolean letter = sign >= 'a' && sign <= 'z' || sign >= 'A' && sign <= 'Z';
            boolean fine = sign >= '0' && sign <= '9' || sign == ' ' || sign == '\n';
            fault(text, fine ? 0 : 1, fine ? NONE : letter ? 0 : 4);
        }
        fault("Coil 1;", 1, 0);
        fault("coiL 1;", 1, 0);
        fault("coi", 1, 0);
        fault("coill 1;", 1, 0);
        fault("sucksthick;", 1, 0);
        fault("sucks thick2;", 1, 11);
        sound("coil1;");
        sound("road0to1long1thick1;");
    }

    private static void p07Numbers() {
        says(7, TOKENS);
        sound("sucks 0;");
        sound("sucks 9999;");
        fault("sucks 10000;", 2, 6);
        sound("sucks 00009999;");
        sum("0", "00");
        sum("0010", "10");
        sum("9999", "9998+1");
    }

    private static void p07Signs() {
        says(7, TOKENS);
        law("if 1<=1 then 5 else 6 end", 5);
        law("if 1>=1 then 5 else 6 end", 5);
        fault("sucks if 1=<1 then 1 else 1 end;", 1, 11);
        fault("sucks if 1=>1 then 1 else 1 end;", 1, 11);
        fault("sucks if 1<<1 then 1 else 1 end;", 1, 11);
        fault("sucks if 1<=>1 then 1 else 1 end;", 1, 12);
        fault("sucks if 1==1 then 1 else 1 end;", 1, 11);
        fault("sucks if 1##1 then 1 else 1 end;", 1, 11);
        fault("sucks if 1!1 then 1 else 1 end;", 1, 10);
        for (String sign : new String[] {"<", ">", "=", "#", "+", "-", "*", "/", "(", ")", ";", "<=", ">="}) {
            fault(sign, 1, 0);
        }
    }

    private static final String CLAUSES = "{CLAUSE}, 24 at most: sucks SUM ; or swells SUM ; (each once)"
        + " or road NUMBER to NUMBER long NUMBER thick NUMBER ; or goer NUMBER mouth NUMBER ; (TOWN)"
        + " or go NUMBER by NUMBER ; (ROAD, GOER) or relay NUMBER ; or coil NUMBER ; or day NUMBER ;";

    private static void p06NoClauses() {
        says(6, CLAUSES);
        LiquoriceRoads x = new LiquoriceRoads();
        due("an empty tape", x.text(), 0);
        due("blanks alone", Tapes.text(x, " \n "), 1);
        due("no fault", x.fault(0), 0);
        due("all is done", x.played(0), NONE);
        due("it can rule", x.by(0), true);
    }

    private static void p06ManyClauses() {
        says(6, CLAUSES);
        LiquoriceRoads x = new LiquoriceRoads();
        due("24", Tapes.text(x, "coil 1;".repeat(24)), 0);
        due("all is done", x.played(0), NONE);
        due("24 times", x.is(3), 44);
        due("24 with both laws", Tapes.text(x, "coil 1;".repeat(22) + "sucks 1;swells 1;"), 1);
        due("25", Tapes.text(x, "coil 1;".repeat(25)), NONE);
        due("25 with both laws", Tapes.text(x, "coil 1;".repeat(23) + "sucks 1;swells 1;"), NONE);
        due("at the 25th", x.fault(1), 169);
    }

    /** Each TOKEN of each CLAUSE is left out: the next one, or the end, can't stand there. */
    private static void p07ClauseForms() {
        says(7, CLAUSES);
        String[] forms = {"sucks 1 ;", "swells 1 ;", "road 0 to 1 long 2 thick 3 ;", "goer 0 mouth 1 ;", "go 0 by 0 ;", "relay 0 ;",
            "coil 1 ;", "day 1 ;"};
        for (String form : forms) {
            sound(form);
            String[] tokens = form.split(" ");
            for (int gone = 0; gone < tokens.length; gone++) {
                StringBuilder left = new StringBuilder();
                int place = 0;
                for (int i = 0; i < tokens.length; i++) {
                    place = i == gone ? left.length() : place;
                    left.append(i == gone ? "" : tokens[i] + " ");
                }
                fault(left.toString(), 1, place);
            }
        }
        LiquoriceRoads x = small();
        x.road(0, 1, 1, 7);
        Tapes.text(x, "goer 7 mouth 8;go 1 by 0;");
        x.played(0);
        due("of goer the town is first", x.ofGoer(1, 0), 7);
        due("then the mouth", x.ofGoer(1, 1), 8);
        due("of go the road is first", x.of(1, 3), 5);
        due("then the goer", x.ofGoer(0, 2), 1);
        Tapes.text(x, "relay 1;");
        due("of relay the road", x.played(1), NONE);
        due("it is as at first", x.of(1, 3), 7);
    }

    private static void p18Sum() {
        says(18, "SUM: PRODUCT {+ or - PRODUCT}");
        law("5", 5);
        law("5+4", 9);
        law("5-4", 1);
        law("2*3+4*5", 26);
        law("50-2*3-8/4+1", 43);
        fault("sucks ;", 1, 6);
        fault("sucks +5;", 1, 6);
        fault("sucks 5+;", 1, 8);
        fault("sucks 5-;", 1, 8);
        fault("sucks 5+*5;", 1, 8);
        fault("sucks 5 5;", 1, 8);
        sound("sucks 5+-5;");
    }

    private static void p18Product() {
        says(18, "PRODUCT: ONE {* or / ONE}");
        law("5*4", 20);
        law("9/4", 2);
        law("9/4*4", 8);
        law("9*4/8*2", 8);
        fault("sucks 5*;", 1, 8);
        fault("sucks 5/;", 1, 8);
        fault("sucks *5;", 1, 6);
        fault("sucks 5//5;", 1, 8);
        sound("sucks 5*-5;");
        sound("sucks 5/-(5);");
    }

    private static final String ONE = "ONE: NUMBER, NAME, ( SUM ), - ONE, common ONE of ONE (the greatest number that parts both, signs"
        + " aside; 0 of two that are 0), roads ONE (THICK of the ROAD of that number; 0 if none such is told),"
        + " if EITHER then SUM else SUM end";

    private static void p18One() {
        says(18, ONE);
        law("12", 12);
        law("mouth", 7);
        law("(5)", 5);
        law("((5)+4)", 9);
        law("(5+4)*2", 18);
        law("--5", 5);
        sum("-5", "0-5");
        sum("-5+9", "4");
        sum("-5*-2", "10");
        sum("-(5+9)", "0-14");
        sum("9--5", "14");
        fault("sucks ();", 1, 7);
        fault("sucks (5;", 1, 8);
        fault("sucks 5);", 1, 7);
        fault("sucks -;", 1, 7);
    }

    private static void p18Common() {
        says(18, ONE);
        sum("common 0 of 0", "0");
        sum("common 0 of 7", "7");
        sum("common 7 of 0", "7");
        sum("common 0 of -7", "7");
        sum("common -7 of 0", "7");
        sum("common 12 of 18", "6");
        sum("common -12 of 18", "6");
        sum("common 12 of -18", "6");
        sum("common -12 of -18", "6");
        sum("common 1 of 9999", "1");
        sum("common 9999 of 9999", "9999");
        sum("common (1000*1000) of (1000*1000)", "1000*1000");
        sum("common (-1000*1000) of 1024", "64");
        sum("common 6765 of 4181", "1");
        sum("common 4 of 6*9", "18");
        sum("common common 12 of 18 of 4", "2");
        fault("sucks common 1;", 1, 14);
        fault("sucks common of 1;", 1, 13);
        fault("sucks common 1 of;", 1, 17);
        fault("sucks common 1+1 of 1;", 1, 14);
        fault("sucks common 4*9 of 6;", 1, 14);
    }

    private static void p18Roads() {
        says(18, ONE);
        law("roads 0", 30);
        law("roads 1", 12);
        sum("roads 2", "0");
        sum("roads 15", "0");
        sum("roads 16", "0");
        sum("roads 9999", "0");
        sum("roads -1", "0");
        sum("roads -(1000*1000)", "0");
        sum("roads (1000*1000)", "0");
        law("roads 0+1", 31);
        law("roads (0+1)", 12);
        law("roads roads 1", 0);
        LiquoriceRoads x = ruled("sucks roads 15;");
        for (int road = 0; road < 16; road++) {
            due("15 is told as the last", x.sucks(0, 0), road < 1 ? NONE : 0);
            x.road(0, 1, 1, 60 + road);
            x.goer(0, 1);
        }
        due("road 15", x.sucks(0, 0), 75);
        x.back();
        x.road(0, 1, 1, 60);
        x.goer(0, 1);
        Tapes.text(x, "sucks roads 1;");
        x.by(0);
        due("what was told and is no more", x.sucks(0, 0), 0);
        fault("sucks roads;", 1, 11);
    }

    private static void p18If() {
        says(18, ONE);
        law("if 1=1 then 5 else 6 end", 5);
        law("if 1=2 then 5 else 6 end", 6);
        law("1+if 1=1 then 5 else 6 end*2", 11);
        law("if 1=1 then if 1=2 then 3 else 4 end else 5 end", 4);
        law("if 1=2 then 3 else if 1=2 then 4 else 5 end end", 5);
        law("if if 1=1 then 2 else 3 end=2 then 7 else 8 end", 7);
        fault("sucks if then 1 else 1 end;", 1, 9);
        fault("sucks if 1=1 then else 1 end;", 1, 18);
        fault("sucks if 1=1 then 1 end;", 1, 20);
        fault("sucks if 1=1 then 1 else end;", 1, 25);
        fault("sucks if 1=1 then 1 else 1;", 1, 26);
        fault("sucks if 1=1 1 else 1 end;", 1, 13);
    }

    private static void p18Either() {
        says(18, "EITHER: BOTH {or BOTH}");
        law("if 1=2 or 1=2 then 5 else 6 end", 6);
        law("if 1=1 or 1=2 then 5 else 6 end", 5);
        law("if 1=2 or 1=1 then 5 else 6 end", 5);
        law("if 1=1 or 1=1 then 5 else 6 end", 5);
        law("if 1=2 or 1=2 or 1=1 then 5 else 6 end", 5);
        law("if 1=1 or 1=2 and 1=2 then 5 else 6 end", 5);
        fault("sucks if 1=1 or then 1 else 1 end;", 1, 16);
        fault("sucks if or 1=1 then 1 else 1 end;", 1, 9);
    }

    private static void p18Both() {
        says(18, "BOTH: ASK {and ASK}");
        law("if 1=2 and 1=2 then 5 else 6 end", 6);
        law("if 1=1 and 1=2 then 5 else 6 end", 6);
        law("if 1=2 and 1=1 then 5 else 6 end", 6);
        law("if 1=1 and 1=1 then 5 else 6 end", 5);
        law("if 1=1 and 1=1 and 1=2 then 5 else 6 end", 6);
        law("if 1=2 and 1=2 or 1=1 then 5 else 6 end", 5);
        fault("sucks if 1=1 and then 1 else 1 end;", 1, 17);
        fault("sucks if and 1=1 then 1 else 1 end;", 1, 9);
    }

    private static void p18Ask() {
        says(18, "ASK: not ASK, or SUM one of < <= > >= = # (unlike) SUM");
        String[] signs = {"<", "<=", ">", ">=", "=", "#"};
        int[][] want = {{5, 6, 6}, {5, 5, 6}, {6, 6, 5}, {6, 5, 5}, {6, 5, 6}, {5, 6, 5}};
        for (int i = 0; i < signs.length; i++) {
            for (int left = 2; left <= 4; left++) {
                law("if " + left + signs[i] + "3 then 5 else 6 end", want[i][left - 2]);
                law("if not " + left + signs[i] + "3 then 5 else 6 end", 11 - want[i][left - 2]);
                law("if not not " + left + signs[i] + "3 then 5 else 6 end", want[i][left - 2]);
            }
        }
        law("if -1<0 then 5 else 6 end", 5);
        law("if 1+1=4-2 then 5 else 6 end", 5);
        law("if not 1=2 and 1=2 then 5 else 6 end", 6);
        law("if not 1=1 or 1=1 then 5 else 6 end", 5);
        fault("sucks if 1 then 1 else 1 end;", 1, 11);
        fault("sucks if 1=1=1 then 1 else 1 end;", 1, 12);
        fault("sucks if 1= then 1 else 1 end;", 1, 12);
        fault("sucks if not then 1 else 1 end;", 1, 13);
        fault("sucks if (1=1) then 1 else 1 end;", 1, 11);
        fault("sucks not 1=1;", 1, 6);
        fault("sucks 1=1;", 1, 7);
    }

    private static final String NAMES = "NAMES: day, rain, way (the ROAD), long, thick (of it) in both; mouth, who (the GOER), went in sucks;"
        + " first (THICK at first) in swells";

    private static void p18Names() {
        says(18, NAMES);
        LiquoriceRoads x = new LiquoriceRoads();
        for (int road = 0; road < 16; road++) {
            x.road(0, 1, 1 + road % 9, 60 + road);
        }
        for (int goer = 0; goer < 6; goer++) {
            x.goer(0, 9 - goer);
        }
        x.day(2);
        x.go(5, 15);
        x.image();
        String[] names = {"day", "rain", "way", "long", "thick", "mouth", "who", "went"};
        int[] want = {2, x.is(2), 15, 7, x.of(15, 3), 4, 5, 3};
        for (int i = 0; i < names.length; i++) {
            x.back();
            rule(x, "sucks " + names[i] + ";");
            due(names[i], x.sucks(5, 15), want[i]);
        }
        fault("sucks first;", 5, 6);
    }

    private static void p16Names() {
        says(16, NAMES);
        LiquoriceRoads x = small();
        x.road(0, 1, 5, 6);
        x.goer(0, 9);
        x.go(1, 1);
        x.day(1);
        x.image();
        String[] names = {"day", "rain", "way", "long", "thick", "first"};
        int[] want = {1, x.is(2), 1, 5, x.of(1, 3), 6};
        for (int i = 0; i < names.length; i++) {
            x.back();
            rule(x, "swells " + names[i] + ";");
            due(names[i], x.of(1, 5), want[i]);
        }
        for (String name : new String[] {"mouth", "who", "went"}) {
            fault("swells " + name + ";", 5, 7);
        }
    }

    private static final String LEFT = "From the left; / cuts towards 0, by 0 it is 0;"
        + " what is above 1000000 (below the same less) is that, at each step";

    private static void p18FromTheLeft() {
        says(18, LEFT);
        sum("9-4-3", "2");
        sum("9-4+3", "8");
        sum("80/4/5", "4");
        sum("80/4*5", "100");
        sum("7*3/2", "10");
        sum("7/2*3", "9");
    }

    private static void p18Parts() {
        says(18, LEFT);
        sum("7/2", "3");
        sum("-7/2", "-3");
        sum("7/-2", "-3");
        sum("-7/-2", "3");
        sum("1/2", "0");
        sum("-1/2", "0");
        sum("0/7", "0");
        sum("7/0", "0");
        sum("-7/0", "0");
        sum("0/0", "0");
        sum("7/0+5", "5");
        sum("7/(3-3)", "0");
    }

    private static void p18Limits() {
        says(18, LEFT);
        sum("1000*1000-1", "999*1001");
        sum("1000*1000+1-1", "999*1001");
        sum("1000*1000+0-1", "999*1001");
        sum("1000*1000-0", "100*9999+100");
        sum("1000*1001", "1000*1000");
        sum("9999*9999", "1000*1000");
        sum("9999*9999/9999", "100");
        sum("-1000*1000-1+1", "-(999*1001)");
        sum("-1000*1000+-1+1", "-(999*1001)");
        sum("-1000*1000+-0", "-1000*1000");
        sum("-1000*1001", "-1000*1000");
        sum("-9999*9999", "0-1000*1000");
        sum("-9999*9999/9999", "-100");
        sum("1000*1000*1000*1000", "1000*1000");
        sum("1000*1000*(1000*1000)", "1000*1000");
        sum("1000*1000*(-1000*1000)", "-1000*1000");
        sum("1000*1000+1000*1000-1000*1000", "0");
        sum("-1000*1000-1000*1000+1000*1000", "0");
        sum("1000*1000--1000*1000", "1000*1000");
        sum("--(1000*1000)", "1000*1000");
        sum("-1000*1000/-1", "1000*1000");
        law("9999*9999-1000*1000+3", 3);
        law("if 9999*9999>1000*1000 then 5 else 6 end", 6);
        law("if -9999*9999<-1000*1000 then 5 else 6 end", 6);
    }

    private static void p18BothSides() {
        says(18, "or and and look at both sides always, of if just the SUM that is chosen is asked");
        law("if 1=1 or 1/0=1 then 5 else 6 end", 5);
        law("if 1=2 and 1/0=0 then 5 else 6 end", 6);
        law("if 1=2 and 1=2 or 1=2 and 1=1 then 5 else 6 end", 6);
        law("1+if 1=1 then 5 else 7*7*7 end+1", 7);
        law("1+if 1=2 then 7*7*7 else 5 end+1", 7);
        law("if 1=1 then 5 else 6 end*10+if 1=2 then 7 else 8 end", 58);
    }

    private static final String FAULTS = "FAULTS, the first as TOKENS are come to, at the TOKEN's first byte (of the end at the length),"
        + " of one the least: 1 it can't stand there, or is none";

    private static void p07FirstFault() {
        says(7, FAULTS);
        fault("coil 100;?", 2, 5);
        fault("?coil 100;", 1, 0);
        fault("sucks first;swells who;", 5, 6);
        fault("sucks 1;sucks 10000;", 4, 8);
        fault("sucks 10000;sucks 1;", 2, 6);
        fault("coil 1;coil 1000;coil", 2, 12);
        fault("   coil   relay", 1, 10);
        fault("sucks 1 thickest;", 1, 8);
        fault("sucks 1 1000000;", 1, 8);
        fault("coil", 1, 4);
        fault("coil \n ", 1, 7);
        fault("coil 1", 1, 6);
        fault("coil 1;sucks", 1, 12);
        fault("sucks (", 1, 7);
        fault("sucks if", 1, 8);
    }

    private static void p07LeastFault() {
        says(7, FAULTS);
        fault("coil 1 10000;", 1, 7);
        fault("sucks 1 10000;", 1, 8);
        fault("10000", 1, 0);
        fault("sucks ((((((((1 (", 1, 16);
        fault("sucks ((((((((1 -(", 3, 17);
        fault("sucks ((((((((not", 1, 14);
        fault("sucks sucks;", 1, 6);
        fault("sucks 1;swells sucks;", 1, 15);
        fault("sucks 1;coil sucks", 1, 13);
        fault("sucks 1 first;", 1, 8);
        fault("coil first;", 1, 5);
        fault("first", 1, 0);
        fault("coil 1;".repeat(24) + ";", 1, 168);
        fault("coil 1;".repeat(24) + "first", 1, 168);
        fault("sucks 1;" + "coil 1;".repeat(23) + "sucks", 4, 169);
        fault("swells 1;" + "coil 1;".repeat(23) + "swells", 4, 170);
    }

    private static void p07NoToken() {
        says(7, FAULTS);
        for (char none : new char[] {0, 9, '!', '?', '.', ',', '_', '[', '{', '~', 128, 255}) {
            fault("" + none, 1, 0);
            fault("sucks 1" + none + ";", 1, 7);
            fault("coil 1; " + none, 1, 8);
            fault("sucks " + none + "1;", 1, 6);
            fault("sucks if " + none + "1=1 then 1 else 1 end;", 1, 9);
            fault("sucks if 1" + none + "1 then 1 else 1 end;", 1, 10);
            fault("sucks if 1=1 " + none + " 1=1 then 1 else 1 end;", 1, 13);
            fault("sucks common 1 " + none + " 1;", 1, 15);
            fault("coil " + none + "1;", 1, 5);
        }
        for (String word : new String[] {"foo", "Thick", "firs", "firsts", "to", "by", "of", "then", "end", "road", "goer", "sucks"}) {
            fault("sucks " + word + ";", 1, 6);
        }
    }

    private static final String NUMBERS = "2 a NUMBER that isn't one of those told (above 9999; TOWNS 0 .. 7, LENGTH, MOUTH 1 .. 9, THICK 1 .. 99,"
        + " ROADS 0 .. 15, GOERS 0 .. 5, of coil 1 .. 99, DAYS 1 .. 60)";

    private static void number(String before, String behind, int low, int high) {
        if (low > 0) {
            fault(before + (low - 1) + behind, 2, before.length());
        }
        sound(before + low + behind);
        sound(before + "000" + low + behind);
        sound(before + high + behind);
        sound(before + "0000000000" + high + behind);
        fault(before + (high + 1) + behind, 2, before.length());
        for (String far : new String[] {"10000", "65537", "4294967297", "18446744073709551617", "9".repeat(80)}) {
            fault(before + far + behind, 2, before.length());
        }
    }

    private static void p07FaultOfNumbers() {
        says(7, NUMBERS);
        number("road ", " to 0 long 1 thick 1;", 0, 7);
        number("road 0 to ", " long 1 thick 1;", 0, 7);
        number("road 0 to 1 long ", " thick 1;", 1, 9);
        number("road 0 to 1 long 1 thick ", ";", 1, 99);
        number("goer ", " mouth 1;", 0, 7);
        number("goer 0 mouth ", ";", 1, 9);
        number("go ", " by 0;", 0, 15);
        number("go 0 by ", ";", 0, 5);
        number("relay ", ";", 0, 15);
        number("coil ", ";", 1, 99);
        number("day ", ";", 1, 60);
    }

    private static void p07FaultOfFarNumbers() {
        says(7, NUMBERS);
        number("sucks ", ";", 0, 9999);
        number("sucks 1+", ";", 0, 9999);
        number("swells roads ", ";", 0, 9999);
        number("swells if 1<", " then 1 else 1 end;", 0, 9999);
    }

    private static final String DEPTH = "3 the 9th of ( not common roads if and - (of one ONE) that are open around one another"
        + " (at it; common till its second is whole)";

    private static void p07FaultOfDepth() {
        says(7, DEPTH);
        sound("sucks " + "(".repeat(8) + "1" + ")".repeat(8) + ";");
        fault("sucks " + "(".repeat(9) + "1" + ")".repeat(9) + ";", 3, 14);
        sound("sucks " + "-".repeat(8) + "1;");
        fault("sucks " + "-".repeat(9) + "1;", 3, 14);
        sound("sucks " + "roads ".repeat(8) + "1;");
        fault("sucks " + "roads ".repeat(9) + "1;", 3, 54);
        sound("sucks " + "common ".repeat(8) + "1" + " of 1".repeat(8) + ";");
        fault("sucks " + "common ".repeat(9) + "1" + " of 1".repeat(9) + ";", 3, 62);
        sound("sucks " + "if 1=1 then ".repeat(8) + "1" + " else 1 end".repeat(8) + ";");
        fault("sucks " + "if 1=1 then ".repeat(9) + "1" + " else 1 end".repeat(9) + ";", 3, 102);
        sound("sucks if " + "not ".repeat(7) + "1=1 then 1 else 1 end;");
        fault("sucks if " + "not ".repeat(8) + "1=1 then 1 else 1 end;", 3, 37);
        sound("sucks (-common roads if not (-1)=1 then 1 else 1 end of 1);");
        fault("sucks (-common roads if not (-(1))=1 then 1 else 1 end of 1);", 3, 30);
        for (String ninth : new String[] {"(", "-", "roads", "common", "if"}) {
            fault("swells " + "(".repeat(8) + ninth + " 1", 3, 15);
            fault("swells " + "(".repeat(7) + "1+" + ninth, 1, 16 + ninth.length());
        }
        fault("sucks " + "(".repeat(7) + "if not", 3, 16);
        fault("sucks " + "(".repeat(6) + "if not", 1, 18);
    }

    private static void p07FaultOfDepthClosed() {
        says(7, DEPTH);
        String eight = "(".repeat(8) + "1" + ")".repeat(8);
        String seven = "(".repeat(7) + "1" + ")".repeat(7);
        sound("sucks " + eight + "+" + eight + "*" + eight + ";swells " + eight + ";");
        sound("sucks -1+" + eight + ";");
        sound("sucks 1-" + eight + ";");
        fault("sucks 1+-" + eight + ";", 3, 16);
        sound("sucks roads 1+" + eight + ";");
        fault("sucks roads " + eight + ";", 3, 19);
        sound("sucks if 1=1 then 1 else 1 end+" + eight + ";");
        sound("sucks if " + seven + "=" + seven + " then " + seven + " else " + seven + " end;");
        fault("sucks if " + eight + "=1 then 1 else 1 end;", 3, 16);
        fault("sucks if 1=" + eight + " then 1 else 1 end;", 3, 18);
        fault("sucks if 1=1 then " + eight + " else 1 end;", 3, 25);
        fault("sucks if 1=1 then 1 else " + eight + " end;", 3, 32);
        sound("sucks if not 1=1 and " + seven + "=1 then 1 else 1 end;");
        sound("sucks if not 1=1 or " + seven + "=1 then 1 else 1 end;");
        fault("sucks if not " + seven + "=1 then 1 else 1 end;", 3, 19);
        fault("sucks if not 1=" + seven + " then 1 else 1 end;", 3, 21);
    }

    private static void p07FaultOfDepthCommon() {
        says(7, DEPTH);
        String eight = "(".repeat(8) + "1" + ")".repeat(8);
        String seven = "(".repeat(7) + "1" + ")".repeat(7);
        sound("sucks common " + seven + " of " + seven + ";");
        fault("sucks common " + eight + " of 1;", 3, 20);
        fault("sucks common 1 of " + eight + ";", 3, 25);
        sound("sucks common 1 of 1+" + eight + ";");
        sound("sucks common 1 of 1*" + eight + ";");
        sound("sucks " + "common 1 of ".repeat(8) + "1;");
        fault("sucks " + "common 1 of ".repeat(9) + "1;", 3, 102);
    }

    private static void p07FaultOfSecondLaw() {
        says(7, "4 sucks, swells for the second time (at it)");
        sound("sucks 1;swells 1;");
        sound("swells 1;sucks 1;");
        fault("sucks 1;sucks 1;", 4, 8);
        fault("swells 1;swells 1;", 4, 9);
        fault("sucks 1;swells 1;  sucks", 4, 19);
        fault("swells 1;sucks 1;\nswells", 4, 18);
        fault("sucks 1;coil 1;sucks ?", 4, 15);
        LiquoriceRoads x = new LiquoriceRoads();
        Tapes.text(x, "sucks 1;sucks 1;");
        due("a text behind a spoilt one has its own", Tapes.text(x, "sucks 1;"), 0);
        due("another text has its own", Tapes.text(x, "sucks 1;"), 1);
    }

    private static void p07FaultOfName() {
        says(7, "5 a NAME that isn't of that CLAUSE (at it)");
        for (String name : new String[] {"day", "rain", "way", "long", "thick"}) {
            sound("sucks " + name + ";swells " + name + ";");
        }
        for (String name : new String[] {"mouth", "who", "went"}) {
            sound("sucks " + name + ";");
            fault("swells " + name + ";", 5, 7);
            fault("sucks " + name + ";swells 1+" + name + ";", 5, 16 + name.length());
        }
        sound("swells first;");
        fault("sucks first;", 5, 6);
        fault("swells first;sucks (first", 5, 20);
        fault("sucks " + "(".repeat(8) + "first", 5, 14);
    }

    private static void p07FaultOf25th() {
        says(7, "6 the 25th CLAUSE (at its first TOKEN)");
        sound("coil 1;".repeat(24));
        sound("coil 1;".repeat(24) + " \n ");
        fault("coil 1;".repeat(24) + "coil 1;", 6, 168);
        fault("coil 1;".repeat(24) + " \ncoil 0", 6, 170);
        fault("coil 1;".repeat(26), 6, 168);
        fault("coil 1;".repeat(24) + "sucks", 6, 168);
        fault("coil 1;".repeat(24) + "day", 6, 168);
    }

    private static void p08Rules() {
        says(8, "THE TEXT (told; at first none) rules");
        LiquoriceRoads x = small();
        due("at first none", x.about(3), NONE);
        Tapes.text(x, "sucks 5;swells 6;");
        Tapes.text(x, "sucks 7;");
        due("none rules yet", x.sucks(0, 0), 2);
        x.by(0);
        due("sucks of 0", x.sucks(0, 0), 5);
        due("swells of 0", x.of(0, 5), 6);
        x.by(1);
        due("sucks of 1", x.sucks(0, 0), 7);
        due("swells of none", x.of(0, 5), 0);
        x.by(NONE);
        due("sucks of none", x.sucks(0, 0), 2);
    }

    private static void p18Held() {
        says(18, "sucks: 0 at least, 99 at most; without: 1 and a third of MOUTH, cut");
        law("0", 0);
        law("-1", 0);
        law("0-1000*1000", 0);
        law("1", 1);
        law("98", 98);
        law("99", 99);
        law("100", 99);
        law("1000*1000", 99);
    }

    private static void p18Without() {
        says(18, "sucks: 0 at least, 99 at most; without: 1 and a third of MOUTH, cut");
        int[] want = {1, 1, 2, 2, 2, 3, 3, 3, 4};
        for (int mouth = 1; mouth <= 9; mouth++) {
            LiquoriceRoads x = new LiquoriceRoads();
            x.road(0, 1, 1, 99);
            x.goer(0, mouth);
            due("no text, mouth " + mouth, x.sucks(0, 0), want[mouth - 1]);
            rule(x, "swells 5;");
            due("a text without, mouth " + mouth, x.sucks(0, 0), want[mouth - 1]);
        }
    }

    private static void p16Held() {
        says(16, "swells: 0 at least, 9 at most; without: RAIN");
        String[] sums = {"0", "-1", "0-1000*1000", "1", "8", "9", "10", "1000*1000"};
        int[] want = {0, 0, 0, 1, 8, 9, 9, 9};
        for (int i = 0; i < sums.length; i++) {
            LiquoriceRoads x = ruled("swells " + sums[i] + ";");
            x.road(0, 1, 1, 99);
            due("swells " + sums[i], x.of(0, 5), want[i]);
        }
    }

    private static void p16Without() {
        says(16, "swells: 0 at least, 9 at most; without: RAIN");
        LiquoriceRoads x = new LiquoriceRoads();
        x.road(0, 1, 1, 99);
        Tapes.text(x, "sucks 5;");
        boolean wet = false;
        for (int i = 0; i < 40; i++) {
            x.by(i % 2 - 1);
            due("rain", x.of(0, 5), x.is(2));
            wet |= x.is(2) == 1;
            x.day(1);
        }
        due("it rained", wet, true);
    }

    private static final String PLAYED = "PLAYED by a TEXT: its CLAUSES but laws, in their order, as by hand; one that can't be ends it"
        + " (of so many DAYS those that can pass do; a road of one and the same TOWN can't be): its number among all CLAUSES (from 0);"
        + " what was done stays";

    private static void p13Played() {
        says(13, PLAYED);
        LiquoriceRoads x = new LiquoriceRoads();
        Tapes.text(x, "sucks 9;road 0 to 1 long 2 thick 9;goer 0 mouth 3;go 0 by 0;relay 0;coil 7;day 2;swells 9;");
        due("all is done", x.played(0), NONE);
        due("the laws don't rule by it: two days by 2", x.of(0, 3), 5);
        due("none rules", x.about(3), NONE);
        due("coil: 2 less, 7 more", x.is(3), 25);
        due("days", x.is(0), 2);
        due("steps as by hand", x.about(4), 5);
        Tapes.text(x, "sucks 1;swells 1;");
        due("laws alone", x.played(1), NONE);
        LiquoriceRoads y = small();
        Tapes.text(y, "coil 1;go 0 by 0;go 0 by 0;relay 0;");
        y.played(0);
        due("in their order", y.of(0, 3), 9);
        due("went", y.ofGoer(0, 2), 2);
    }

    private static void refused(LiquoriceRoads x, String text, int want) {
        int number = Tapes.text(x, text);
        due(text, x.played(number), want);
    }

    private static void p13PlayedRefused() {
        says(13, PLAYED);
        LiquoriceRoads x = small();
        refused(x, "road 3 to 3 long 1 thick 1;coil 1;", 0);
        due("what is behind isn't done", x.is(3), 20);
        refused(x, "sucks 1;coil 1;swells 1;go 1 by 0;coil 1;", 3);
        due("what was done stays", x.is(3), 21);
        refused(x, "coil 1;relay 0;coil 1;", 1);
        due("what was done stays", x.is(3), 22);
        refused(x, "go 0 by 1;", 0);
        LiquoriceRoads y = new LiquoriceRoads();
        refused(y, "goer 0 mouth 1;".repeat(7), 6);
        due("six", y.about(1), 6);
        refused(y, "road 0 to 1 long 1 thick 1;".repeat(8), NONE);
        due("sixteen", y.played(1), NONE);
        due("no more", y.played(1), 0);
        due("sixteen", y.about(0), 16);
        coilTo(y, 990);
        refused(y, "coil 9;coil 1;", 1);
        due("full", y.is(3), 999);
        refused(y, "coil 1;".repeat(24), 0);
        LiquoriceRoads z = new LiquoriceRoads();
        refused(z, "coil 1;".repeat(23) + "relay 0;", 23);
    }

    private static void p13PlayedDays() {
        says(13, PLAYED);
        LiquoriceRoads x = aged(9990);
        refused(x, "coil 1;day 9;", NONE);
        due("just to the last", x.is(0), 9999);
        x.undo();
        x.undo();
        refused(x, "sucks 0;day 3;coil 1;", 1);
        due("two passed", x.is(0), 9999);
        due("they stay, nothing else", x.is(3), 21);
        due("they are steps", x.undo() >= 0 && x.undo() >= 0, true);
        due("two back", x.is(0), 9997);
        refused(x, "day 60;", 0);
        due("two passed", x.is(0), 9999);
        due("none can", x.played(3), 0);
    }
}
