/** What the document says of the sky, of shots and of texts. */
final class TextSentences {
    private static final int NONE = CloudTakes.NONE;
    private static final String SHOT = "wide 0 1 0 0;";

    private final Reading r;

    TextSentences(Reading reading) {
        r = reading;
    }

    void walks() {
        sky();
        shots();
        numbersOfADay();
        tokens();
        lines();
        expressions();
        arithmetic();
        values();
        valuesOfNow();
        faultsOfPlace();
        faultsTooMuch();
        faultsTooDeep();
        faultsUnknown();
    }

    private void sky() {
        r.says("THE SKY is sun or cloud in each MINUTE, 0 to DAY less 1 (10 to 480 MINUTES; 240 without):");
        CloudTakes least = Tape.planned("day 10;sun 480;");
        r.eq("sky(9, 0)", least.sky(9, 0), 1);
        r.noSuch("sky(10, 0)", () -> least.sky(10, 0));
        CloudTakes most = Tape.planned("day 480;sun 480;");
        r.eq("sky(479, 0)", most.sky(479, 0), 1);
        r.noSuch("sky(480, 0)", () -> most.sky(480, 0));
        r.eq("sky(0, 1)", most.sky(0, 1), 480);
        CloudTakes without = Tape.planned("sun 480;");
        r.eq("sky(239, 0)", without.sky(239, 0), 1);
        r.noSuch("sky(240, 0)", () -> without.sky(240, 0));
        r.noSuch("sky(-1, 0)", () -> without.sky(-1, 0));
        r.bad(2, "day @9;");
        r.bad(2, "day @481;");
        r.bad(2, "day @0;");
        r.says("parts one behind the other (at most 16), each so many MINUTES (1 to 480);");
        r.sky(Tape.planned("day 12;sun 2;cloud 3;cloud 1;sun 1;sun 3;cloud 1;sun 1;"), "sscccc" + "ssss" + "cs");
        r.good("sun 1;".repeat(16));
        r.bad(2, "sun 1;".repeat(16) + "@sun 1;");
        CloudTakes last = Tape.planned("cloud 1;".repeat(15) + "sun 1;");
        r.eq("the 16th part", last.sky(15, 1), 1);
        r.good("sun 1;cloud 480;");
        r.bad(2, "sun @0;");
        r.bad(2, "cloud @0;");
        r.bad(2, "sun @481;");
        r.bad(2, "cloud @481;");
        CloudTakes beyond = Tape.planned("day 480;cloud 479;sun 480;cloud 480;sun 480;");
        r.eq("a part over the end of the longest day", beyond.sky(479, 1), 1);
        r.eq("a part over the end of the longest day", beyond.sky(479, 0), 1);
        r.says("behind the last part it is cloud.");
        CloudTakes ended = Tape.planned("day 480;sun 3;");
        r.eq("sky(2, 0)", ended.sky(2, 0), 1);
        r.eq("sky(3, 0)", ended.sky(3, 0), 0);
        r.eq("sky(3, 1)", ended.sky(3, 1), 477);
        r.eq("no part at all", Tape.planned("day 480;").sky(0, 1), 480);
    }

    private void shots() {
        r.says("SHOTS 0, 1 .. (at most 8):");
        CloudTakes eight = new CloudTakes();
        StringBuilder text = new StringBuilder();
        for (int i = 0; i < 8; i++) {
            text.append("near 2 ").append(i + 1).append(" 0 9;");
        }
        r.eq("plan", Tape.plan(eight, text.toString()), 0);
        r.counts(eight, 0, 8);
        for (int i = 0; i < 8; i++) {
            r.eq("shot(" + i + ", 2)", eight.shot(i, 2), i + 1);
        }
        r.bad(2, text + "@near 2 9 0 9;");
        r.says("a KIND (0 wide, 1 near, 2 inside), a LIGHT (0 any, but one and the same all along; 1 sun, 2 cloud),");
        CloudTakes x = Tape.planned("day 20;sun 4;wide 0 3 0 19;near 1 3 0 19;inside 2 3 0 19;wide 2 3 0 19;");
        for (int i = 0; i < 3; i++) {
            r.eq("shot(" + i + ", 0)", x.shot(i, 0), i);
            r.eq("shot(" + i + ", 1)", x.shot(i, 1), i);
        }
        r.eq("any in sun", x.why(0, 0), 0);
        r.eq("any in cloud", x.why(0, 4), 0);
        r.eq("sun in sun", x.why(1, 3), 0);
        r.eq("sun in cloud", x.why(1, 4), 5);
        r.eq("cloud in sun", x.why(3, 3), 5);
        r.eq("cloud in cloud", x.why(3, 4), 0);
        r.eq("any, one and the same all along: 0, 1 and all from 4 to 17", x.chances(0, 0), 2 + 14);
        r.bad(2, "wide @3 1 0 0;");
        r.says("a LENGTH (1 to 30 MINUTES), FROM, TO (MINUTES 0 to 480, FROM no more than TO):");
        r.good("wide 0 1 0 0;near 0 30 480 480;inside 0 30 0 480;wide 0 1 239 240;");
        r.bad(2, "wide 0 @0 0 0;");
        r.bad(2, "wide 0 @31 0 0;");
        r.bad(2, "wide 0 1 @481 481;");
        r.bad(2, "wide 0 1 480 @481;");
        r.bad(2, "wide 0 1 240 @239;");
        r.bad(2, "wide 0 1 1 @0;");
        r.says("the window in which it must be begun;");
        CloudTakes window = Tape.planned("day 30;wide 0 9 5 10;wide 0 9 7 7;wide 0 9 0 0;wide 0 9 480 480;");
        r.eq("why(0, 4)", window.why(0, 4), 4);
        r.eq("why(0, 5)", window.why(0, 5), 0);
        r.eq("ended behind its window", window.why(0, 10), 0);
        r.eq("why(0, 11)", window.why(0, 11), 4);
        r.eq("a window of one minute", window.chances(1, 0), 1);
        r.eq("a window of one minute", window.chances(1, 1), 7);
        r.eq("a window of minute 0", window.chances(2, 1), 0);
        r.eq("a window behind the day", window.chances(3, 0), 0);
        r.says("AFTER a SHOT told ahead, or none.");
        CloudTakes after = Tape.planned(SHOT + SHOT + "wide 0 1 0 0 after 0;wide 0 1 0 0 after 2;");
        r.eq("shot(0, 5)", after.shot(0, 5), NONE);
        r.eq("shot(1, 5)", after.shot(1, 5), NONE);
        r.eq("shot(2, 5)", after.shot(2, 5), 0);
        r.eq("shot(3, 5)", after.shot(3, 5), 2);
        r.bad(3, SHOT + "wide 0 1 0 0 after @1;");
        r.bad(3, SHOT + "wide 0 1 0 0 after @2;" + SHOT);
    }

    private void numbersOfADay() {
        r.says("MOVE (0 to 120; 50 without): minutes from out to inside or back.");
        CloudTakes none = Tape.planned("move 0;");
        r.eq("in no time", none.move(true), 0);
        r.eq("and back", none.move(false), 0);
        CloudTakes most = Tape.planned("move 120;");
        r.eq("in 120 minutes", most.move(true), 120);
        r.eq("and back", most.move(false), 240);
        r.eq("50 without", Tape.planned("cold 2;").move(true), 50);
        r.bad(2, "move @121;");
        r.says("COLD (0 to 9; 1 without).");
        r.counts(Tape.planned("cold 0;"), 3, 0);
        r.counts(Tape.planned("cold 9;"), 3, 9);
        r.counts(Tape.planned("move 9;"), 3, 1);
        r.bad(2, "cold @10;");
        r.says("RULES 0, 1 .. (at most 4).");
        CloudTakes x = Tape.planned("day 10;wide 0 2 0 9;rule 0;rule 0;rule 0;rule 1;");
        r.counts(x, 4, 4);
        for (int i = 0; i < 4; i++) {
            r.eq("day(" + i + ", 0)", x.day(i, 0), i / 3);
        }
        r.bad(2, "rule 0;".repeat(4) + "@rule 1;");
        r.says("A TEXT of at most 700 bytes tells it.");
        String filled = "sun 5;" + " ".repeat(687) + "cold 7;";
        CloudTakes full = new CloudTakes();
        r.eq("700 bytes", Tape.plan(full, filled), 0);
        r.counts(full, 3, 7, 15, 0);
        Tape.feed(full, filled);
        r.illegal("plan(701)", () -> full.plan(701));
        r.eq("699 bytes lack the last ';'", full.plan(699), 1);
        r.eq("fault()", full.fault(), 699);
        r.bad(1, " ".repeat(694) + "day 10@");
        r.bad(1, " ".repeat(697) + "sun@");
        r.bad(1, " ".repeat(691) + "rule left@");
    }

    private void tokens() {
        r.says("TOKENS: words (a .. z, the longest row), NUMBERS (1 to 4 digits), signs ; ( ) + - * / < = ;");
        r.good("sun5;cloud7;wide0 1 0 0;rule length+kind*(2-left)/until<hour;rule 1=2;");
        r.bad(1, "@sunsun 5;");
        r.bad(1, "@suncloud 5;");
        r.bad(1, "@sunz 5;");
        r.bad(1, "@suna 5;");
        r.bad(1, "sun@`5;");
        r.bad(1, "sun@{5;");
        r.bad(1, "sun@A5;");
        r.bad(1, "sun@Z5;");
        r.bad(1, "@SUN 5;");
        r.bad(1, "sun 5@:;");
        r.good("sun 0;".replace('0', '1') + "sun 0009;sun 09;sun 480;");
        r.bad(2, "sun @00009;");
        r.bad(1, "sun @/5;");
        for (char sign : "!\"#$%&',.:>?@[\\]^_`{|}~".toCharArray()) {
            CloudTakes x = new CloudTakes();
            r.eq("no token: " + sign, Tape.plan(x, "rule 1 " + sign), 1);
            r.eq("fault()", x.fault(), 7);
        }
        for (int sign : new int[] {0, 1, 9, 11, 12, 13, 31, 127, 128, 160, 255}) {
            CloudTakes x = new CloudTakes();
            r.eq("no token: byte " + sign, Tape.plan(x, "sun 5;" + (char) sign), 1);
            r.eq("fault()", x.fault(), 6);
        }
        r.says("blanks (32, 10) between them count for nothing.");
        r.good("");
        r.good(" ");
        r.good("\n");
        r.good("\n  sun\n\n5 \n;  ");
        r.good("rule(1)and(2)or not(3);");
        r.bad(1, "@su n 5;");
        r.bad(1, "sun 1 @2;");
        r.bad(1, "sun@\t5;");
        r.bad(1, "sun 5;@\r\n");
    }

    private void lines() {
        r.says("In quotes is what stands there, [ ] perhaps, * any number of times, | one of some.");
        r.good("");
        r.good(SHOT + "wide 0 1 0 0 after 0;" + SHOT);
        r.bad(1, "@'sun' 5;");
        r.bad(1, "wide 0 1 0 0 @[after 0];");
        r.says("PLAN: LINE*. LINE: (('sun' | 'cloud') NUMBER");
        r.good("sun 5;cloud 5;");
        r.bad(1, "sun@;");
        r.bad(1, "cloud@;");
        r.bad(1, "sun @cloud 5;");
        r.bad(1, "sun 5 @cloud 5;");
        r.says("| ('wide' | 'near' | 'inside') LIGHT LENGTH FROM TO ['after' SHOT]");
        for (String kind : new String[] {"wide", "near", "inside"}) {
            r.good(kind + " 1 2 3 4;");
            r.good(SHOT + kind + " 1 2 3 4 after 0;");
            r.bad(1, kind + "@;");
            r.bad(1, kind + " 1@;");
            r.bad(1, kind + " 1 2@;");
            r.bad(1, kind + " 1 2 3@;");
            r.bad(1, kind + " 1 2 3 4 @5;");
            r.bad(1, kind + " @length 2 3 4;");
            r.bad(1, SHOT + kind + " 1 2 3 4 after@;");
            r.bad(1, SHOT + kind + " 1 2 3 4 after 0 @after 0;");
            r.bad(1, SHOT + kind + " 1 2 3 @after 0;");
        }
        r.says("| ('day' | 'move' | 'cold') NUMBER");
        r.good("cold 2;move 3;day 20;");
        r.bad(1, "day@;");
        r.bad(1, "move@;");
        r.bad(1, "cold@;");
        r.bad(1, "cold 1 @2;");
        r.says("| 'rule' EXPR) ';', all in capitals but EXPR being NUMBERS.");
        r.good("rule 1;");
        r.bad(1, "rule@;");
        r.bad(1, "rule 1@");
        r.bad(1, "sun 5@");
        r.bad(1, "sun @(5);");
        r.bad(1, "sun 5@+1;");
        r.bad(1, "day @-5;");
        r.bad(1, "@;");
        r.bad(1, "sun 5;@;");
        r.bad(1, "@5;");
        r.bad(1, "@after 0;");
        r.bad(1, "@length;");
    }

    /** An expression's worth for a shot of length 2 in sun that lasts 5 minutes, in the day's first minute. */
    private void worth(String expr, int due) {
        String number = due < 0 ? "0-" + -due : "" + due;
        CloudTakes x = Tape.planned("day 10;sun 5;wide 1 2 0 0;rule (" + expr + ")=" + number + ";");
        r.eq("'" + expr + "' = " + due, x.day(0, 0), 1);
    }

    private void expressions() {
        r.says("EXPR: AND ('or' AND)*.");
        r.good("rule 1 or 2 or 3;");
        worth("0 or 0 or 3", 1);
        worth("1 or 0 and 0", 1);
        r.bad(1, "rule 1 or@;");
        r.says("AND: NOT ('and' NOT)*.");
        r.good("rule 1 and 2 and not 3;");
        worth("1 and 1 and 0", 0);
        worth("not 0 and 0", 0);
        r.bad(1, "rule 1 and@;");
        r.says("NOT: 'not' NOT | SUM [('<' | '=') SUM].");
        r.good("rule not not 1<2;");
        worth("not 1<0", 1);
        worth("not not 7", 1);
        worth("1+1<2", 0);
        worth("1+1=2", 1);
        r.bad(1, "rule 1<2@<3;");
        r.bad(1, "rule 1=2@=3;");
        r.bad(1, "rule 1<@;");
        r.bad(1, "rule not@;");
        r.says("SUM: PRODUCT (('+' | '-') PRODUCT)*.");
        worth("1+2*3-4", 3);
        worth("9-3-2", 4);
        worth("2-5", -3);
        r.bad(1, "rule 1+@;");
        r.bad(1, "rule @-1;");
        r.bad(1, "rule 1-@-1;");
        r.says("PRODUCT: PART (('*' | '/') PART)*.");
        worth("2*3*4", 24);
        worth("7/2*2", 6);
        worth("2*7/2", 7);
        r.bad(1, "rule 1*@;");
        r.bad(1, "rule 1/@/2;");
        r.says("PART: NUMBER | VALUE | '(' EXPR ')'.");
        worth("9999", 9999);
        worth("0007", 7);
        worth("length", 2);
        worth("(1 or 0)*(3+4)", 7);
        worth("(not 0)+1", 2);
        r.bad(1, "rule (@);");
        r.bad(1, "rule (1@;");
        r.bad(1, "rule 1@);");
        r.bad(1, "rule 1 @2;");
        r.bad(1, "rule 1 @length;");
    }

    private void arithmetic() {
        r.says("From the left;");
        worth("8-4-2", 2);
        worth("8/4/2", 1);
        worth("8/4*2", 4);
        worth("8-4+2", 6);
        r.says("ints that wrap,");
        worth("4096*8192*64/9999/9999", -21);
        worth("4096*8192*64-1<0", 0);
        worth("4096*8192*64<0", 1);
        worth("4096*8192*128", 0);
        worth("4096*8192*64/(0-1)<0", 1);
        r.says("/ cut down to 0, by 0 gives 0;");
        worth("7/2", 3);
        worth("(0-7)/2", -3);
        worth("7/(0-2)", -3);
        worth("(0-7)/(0-2)", 3);
        worth("1/2", 0);
        worth("(0-1)/2", 0);
        worth("5/0", 0);
        worth("0/0", 0);
        worth("5/(1-1)+3", 3);
        r.says("tests, not, and, or are 1 or 0 (what isn't 0 holds).");
        worth("3<4", 1);
        worth("4<4", 0);
        worth("5<4", 0);
        worth("4=4", 1);
        worth("3=4", 0);
        worth("not 0", 1);
        worth("not 9", 0);
        worth("not (0-1)", 0);
        worth("5 and 7", 1);
        worth("5 and 0", 0);
        worth("0 and 5", 0);
        worth("(0-1) and 2", 1);
        worth("0 or 7", 1);
        worth("7 or 0", 1);
        worth("7 or 7", 1);
        worth("0 or 0", 0);
        worth("(0-1) or 0", 1);
    }

    private void values() {
        r.says("VALUES of a SHOT: 'length', 'kind', 'light',");
        worth("length", 2);
        worth("kind", 0);
        worth("light", 1);
        CloudTakes x = Tape.planned("day 40;move 0;near 2 30 0 9;inside 0 1 0 39 after 0;"
                + "rule kind=1 and length=30 and light=2 or kind=2 and length=1 and light=0;");
        r.eq("each shot its own", x.day(0, 4), 3);
        r.says("'left' (how many MINUTES more, this one too, the sky is as it is now),");
        worth("left", 5);
        CloudTakes left = Tape.planned("day 20;sun 3;cloud 4;sun 2;wide 0 1 0 19;rule left=1;rule left=4;"
                + "rule left=11;rule left=12;");
        r.eq("its last minute", left.day(0, 3), 3);
        r.eq("cloud's first minute", left.day(1, 3), 4);
        r.eq("the day's last part is 9 to 19", left.day(2, 3), 10);
        r.eq("the day's last part ends with the day", left.day(3, 3), NONE);
        r.says("'until' (how many MINUTES its window has still, this one too),");
        CloudTakes until = Tape.planned("day 20;wide 0 1 3 9;wide 0 1 0 480;rule until=7;rule until=1;"
                + "rule until=481;rule until=462;");
        r.eq("its first minute", until.day(0, 3), 4);
        r.eq("its last minute", until.day(1, 3), 10);
        r.eq("a window that goes on behind the day", until.day(2, 3), 1);
        r.eq("a window that goes on behind the day", until.day(3, 3), 20);
    }

    private void valuesOfNow() {
        r.says("'hour' (the MINUTE by 60, cut down),");
        CloudTakes hour = Tape.planned("day 480;wide 0 1 59 480;rule hour=0;rule hour=1;rule hour=7;rule hour=8;");
        r.eq("59 is in hour 0", hour.day(0, 3), 60);
        r.eq("60 is in hour 1", hour.day(1, 3), 61);
        r.eq("420 is in hour 7", hour.day(2, 3), 421);
        r.eq("no hour 8", hour.day(3, 3), NONE);
        r.says("'waited' (MINUTES that were waited since something was taken or spoilt, or one moved, or the day began),");
        CloudTakes x = Tape.planned("day 60;sun 1;cloud 2;move 3;wide 0 2 0 59;wide 0 1 9 59;inside 0 1 0 59;"
                + "rule (kind=0)*(waited=2)+(kind=2)*(waited=4);");
        r.eq("the day began", x.count(11), 0);
        x.await(5);
        x.await(2);
        r.counts(x, 11, 7);
        r.eq("taken", x.take(0), 1);
        r.counts(x, 11, 0);
        x.await(4);
        x.move(true);
        r.counts(x, 11, 0);
        x.await(6);
        x.move(false);
        r.counts(x, 11, 0);
        CloudTakes y = Tape.planned("day 60;sun 1;cloud 2;move 3;wide 0 2 0 59;wide 0 1 9 59;inside 0 1 0 59;"
                + "rule (kind=0)*(waited=2)+(kind=2)*(waited=4);");
        y.await(2);
        r.eq("taken in 2 behind 2 minutes, in 9 none is left: waited 5", y.day(0, 4), 1);
        y.undo();
        r.eq("spoilt", y.take(0), 0);
        r.counts(y, 11, 0, 5, 2);
        y.await(1);
        y.sets(0, true);
        y.clouds(0, 0, true);
        r.counts(y, 11, 1);
        r.eq("waited goes on from now: taken in 4 by 6", y.day(0, 3), 6);
        r.says("'tries' (how often it was spoilt).");
        CloudTakes z = Tape.planned("day 20;sun 1;cloud 1;sun 1;cloud 1;sun 1;wide 0 2 0 19;wide 0 1 19 19;"
                + "rule tries=0;rule tries<2;rule tries<9;");
        r.eq("once", z.day(0, 2), 1);
        r.eq("twice", z.day(1, 2), 2);
        r.eq("until it is had: in 0, 2 and 4", z.day(2, 2), 3);
        r.eq("until it is had", z.day(2, 0), 2);
        z.take(0);
        r.eq("it goes on from now", z.day(1, 2), 1);
        r.eq("of each shot for itself", z.day(0, 4), 2);
    }

    private void faultsOfPlace() {
        r.says("FAULTS, the first along the text, at a TOKEN's first byte, of one TOKEN the least:");
        r.bad(2, "sun @0;day 1;x");
        r.bad(1, "sun 5;@x;sun 0;");
        r.bad(3, "rule @foo+10000;");
        r.bad(2, "rule @10000+foo;");
        r.bad(2, "  \n sun   @00481;");
        r.bad(1, "@clouds 5;");
        r.bad(1, "rule 1 @10000;");
        r.bad(1, "sun 5 @10000;");
        r.bad(2, SHOT + "wide 0 1 0 0 after @10000;");
        r.bad(2, "rule ((((((@foo");
        r.bad(4, "day 20;@day 5;");
        r.says("1 a TOKEN that can't stand there, or is none (the text's length where it ends too soon);");
        r.bad(1, "@cloudy 5;");
        r.bad(1, "sun @);");
        r.bad(1, "sun 5@#;");
        r.bad(1, "sun@");
        r.bad(1, "sun 5@");
        r.bad(1, "sun 5  \n @");
        r.bad(1, "wide 0 1 0 0 after@");
        r.bad(1, "rule@");
        r.bad(1, "rule 1+@");
        r.bad(1, "rule (1 @");
        r.bad(1, "rule not @");
        // What stood behind it on an earlier tape, or stands there on this one, is no part of the text.
        CloudTakes x = new CloudTakes();
        r.eq("the whole", Tape.plan(x, "day 100;move 7;"), 0);
        Tape.feed(x, "day 100;move 7;");
        r.eq("its first 6 bytes", x.plan(6), 1);
        r.eq("fault()", x.fault(), 6);
        Tape.feed(x, "day 100;move 7;");
        r.eq("its first 10 bytes", x.plan(10), 1);
        r.eq("fault()", x.fault(), 8);
        Tape.plan(x, "rule lengthy;");
        Tape.feed(x, "rule lengthy;");
        r.eq("its first 11 bytes", x.plan(11), 1);
        r.eq("fault()", x.fault(), 11);
    }

    private void faultsTooMuch() {
        r.says("2 one that can, but is too much: a NUMBER of 5 digits or more,");
        r.good("rule 0000;rule 9999;sun 0010;");
        r.bad(2, "rule @00000;");
        r.bad(2, "rule length*@10000;");
        r.bad(2, "sun @00010;");
        r.bad(2, "sun @" + "1".repeat(600) + ";");
        r.bad(2, "cold @000000000000000000001;");
        r.says("or (not in an EXPR) not as told (a LIGHT that isn't 0 to 2, a TO below FROM),");
        r.bad(2, "wide @3 1 0 0;");
        r.bad(2, "near @9999 1 0 0;");
        r.bad(2, "inside 2 1 480 @479;");
        r.bad(2, "wide 0 1 @9999 0;");
        r.bad(2, "day @9999;");
        r.bad(2, "move @9999;");
        r.good("wide 2 1 480 480;rule 9999;");
        r.says("the first TOKEN of the 17th part, the 9th SHOT, the 5th RULE,");
        String parts = "sun 1;cloud 1;".repeat(8);
        r.good(parts);
        r.bad(2, parts + "@sun 1;");
        r.bad(2, parts + "@cloud");
        r.good(SHOT.repeat(8));
        r.bad(2, SHOT.repeat(8) + "@wide 0 1 0 0;");
        r.bad(2, SHOT.repeat(8) + "@near");
        r.bad(2, SHOT.repeat(8) + "@inside;");
        r.good("rule 1;".repeat(4));
        r.bad(2, "rule 1;".repeat(4) + "@rule 1;");
        r.bad(2, "rule 1;".repeat(4) + "@rule foo");
        r.bad(1, parts + "@suns 1;");
        r.good(parts + SHOT.repeat(8) + "rule 1;".repeat(4) + "day 10;move 0;cold 0;");
    }

    private void faultsTooDeep() {
        r.says("of an EXPR within 6 others (a NUMBER, any word, a parenthesis),");
        r.good("rule (((((1)))));");
        r.good("rule 1+(2+(3+(4+(5+(6)))));");
        r.good("rule (1)+(2)+(3)+(4)+(5)+(6)+(7);");
        r.bad(2, "rule ((((((@1))))));");
        r.bad(2, "rule ((((((@00001");
        r.bad(2, "rule ((((((@length");
        r.bad(2, "rule ((((((@not 1");
        r.bad(2, "rule ((((((@or");
        r.bad(2, "rule ((((((@foo");
        r.bad(2, "rule ((((((@(1");
        r.bad(1, "rule ((((((@)");
        r.bad(1, "rule ((((((@;");
        r.bad(1, "rule ((((((@+");
        r.bad(1, "rule ((((((@#");
        r.bad(1, "rule ((((((@");
        r.bad(2, "rule (((((1)))))+1+((((((@1");
        r.says("the seventh 'not' side by side;");
        String six = "not ".repeat(6);
        r.good("rule " + six + "1;");
        r.bad(2, "rule " + six + "@not 1;");
        r.bad(2, "rule " + six + "@not");
        r.good("rule " + six + "1 and " + six + "2 or " + six + "3;");
        r.good("rule " + six + "(" + six + "1);");
        r.bad(2, "rule " + six + "(" + six + "@not 1);");
        r.bad(2, "rule 1 and " + six + "@not 1;");
        r.good("rule (not (not (not (not (" + six + "1)))));");
    }

    private void faultsUnknown() {
        r.says("3 any word where a PART must stand that is no VALUE,");
        r.bad(3, "rule @foo;");
        r.bad(3, "rule @lengths;");
        r.bad(3, "rule @leng;");
        r.bad(3, "rule @sun;");
        r.bad(3, "rule @after;");
        r.bad(3, "rule @or 1;");
        r.bad(3, "rule @and 1;");
        r.bad(3, "rule not @and;");
        r.bad(3, "rule not not not not not not @nots;");
        r.bad(3, "rule 1+@not 1;");
        r.bad(3, "rule 1*@not 1;");
        r.bad(3, "rule 1<@not 1;");
        r.bad(3, "rule (@foo);");
        r.bad(3, "rule 1 or @or 1;");
        r.bad(1, "rule 1 @foo;");
        r.bad(1, "rule (1) @foo;");
        r.says("a SHOT that isn't told ahead;");
        r.bad(3, "wide 0 1 0 0 after @0;");
        r.bad(3, SHOT + "wide 0 1 0 0 after @1;");
        r.bad(3, SHOT + "wide 0 1 0 0 after @0008;");
        r.bad(3, SHOT + "wide 0 1 0 0 after @9999;");
        r.good(SHOT + "wide 0 1 0 0 after 0000;");
        r.good(SHOT.repeat(7) + "wide 0 1 0 0 after 6;");
        r.bad(3, SHOT.repeat(7) + "wide 0 1 0 0 after @7;");
        r.says("4 a second 'day', 'move', 'cold'.");
        r.bad(4, "day 20;@day 20;");
        r.bad(4, "move 20;sun 3;@move 20;");
        r.bad(4, "cold 2;day 20;@cold 2;");
        r.bad(4, "cold 2;@cold");
        r.bad(4, "move 50;@move x;");
        r.bad(1, "day 20;@days 20;");
    }
}
