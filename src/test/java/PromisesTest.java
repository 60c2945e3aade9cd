import java.util.NoSuchElementException;

/** Each promise of the document with answers worked out by hand: ordinary inputs, edges, wrong inputs. */
public final class PromisesTest {
    private static final int NONE = CloudTakes.NONE;

    /** Sun in 0 to 4, cloud in 5 to 7, sun in 8 to 17, cloud from 18 to the end. */
    private static final String SKY = "sun 5;cloud 3;sun 10;day 30;move 4;cold 2;";
    private static final String PLAN = SKY + "wide 1 4 0 20;near 2 3 0 30;inside 0 5 0 30;wide 1 6 0 30 after 0;"
            + "rule left-length;rule 9-length;";

    private static int wrong = 0;
    private static int tried = 0;
    private static String promise = "";

    private static void eq(String call, long got, long want) {
        tried++;
        if (got != want) {
            wrong++;
            System.out.println("promise " + promise + ": " + call + " answered " + got + ", due is " + want);
        }
    }

    private static void eq(String call, boolean got, boolean want) {
        eq(call, got ? 1 : 0, want ? 1 : 0);
    }

    private static String thrown(Runnable call) {
        try {
            call.run();
            return "nothing";
        } catch (NoSuchElementException e) {
            return "NoSuchElementException";
        } catch (IllegalArgumentException e) {
            return "IllegalArgumentException";
        }
    }

    private static void throwing(String due, String call, Runnable run) {
        tried++;
        String got = thrown(run);
        if (!got.equals(due)) {
            wrong++;
            System.out.println("promise " + promise + ": " + call + " throws " + got + ", due is " + due);
        }
    }

    private static void noSuch(String call, Runnable run) {
        throwing("NoSuchElementException", call, run);
    }

    private static void illegal(String call, Runnable run) {
        throwing("IllegalArgumentException", call, run);
    }

    private static void counts(CloudTakes x, int... pairs) {
        for (int i = 0; i < pairs.length; i += 2) {
            eq("count(" + pairs[i] + ")", x.count(pairs[i]), pairs[i + 1]);
        }
    }

    public static void main(String[] args) {
        newObject();
        feed();
        plan();
        fault();
        count();
        shot();
        sky();
        why();
        ready();
        edge();
        take();
        await();
        move();
        sets();
        clouds();
        undo();
        day();
        rules();
        best();
        most();
        order();
        soonest();
        inside();
        worth();
        chances();
        without();
        shorter();
        idle();
        regret();
        holes();
        hole();
        lasts();
        trial();
        see();
        which();
        forget();
        week();
        image();
        restore();
        System.out.println(tried + " answers, " + wrong + " wrong");
        if (wrong != 0) {
            System.exit(1);
        }
    }

    private static void newObject() {
        promise = "1";
        CloudTakes x = new CloudTakes();
        counts(x, 0, 0, 1, 240, 2, 50, 3, 1, 4, 0, 5, 0, 6, 0, 7, 0, 8, 0, 9, 0, 10, 0, 11, 0, 12, 0, 13, 0, 14, 0,
                15, 0, 16, 0, 17, 0, 18, 0);
        eq("fault()", x.fault(), NONE);
        eq("sky(0, 1)", x.sky(0, 1), 240);
        eq("sky(239, 0)", x.sky(239, 0), 0);
        eq("most(0)", x.most(0), 0);
        eq("restore()", x.restore(), false);
        eq("undo()", x.undo(), NONE);
        eq("NONE", NONE, -1);
    }

    private static void feed() {
        promise = "2";
        CloudTakes x = new CloudTakes();
        for (int i = 1; i <= 35; i++) {
            eq("feed", x.feed(0x20202020, 0x20202020, 0x20202020, 0x20202020, 0x20202020), 20 * i);
        }
        eq("the 36th feed", x.feed(0x21212121, 0, 0, 0, 0), NONE);
        counts(x, 15, 700);
        eq("plan(700)", x.plan(700), 0);
        eq("feed", x.feed(0x73756e39, 0x3b637831, 0xff000000, 0, -1), 20);
        eq("'sun9;cx1' has its fault at the second word", x.plan(8), 1);
        eq("fault()", x.fault(), 5);
        x.feed(0x73756e39, 0x3bff0000, 0, 0, 0);
        eq("a byte above 127 is no token", x.plan(6), 1);
        eq("fault()", x.fault(), 5);
    }

    private static void plan() {
        promise = "3";
        CloudTakes x = Tape.planned(PLAN);
        eq("move", x.move(true), 4);
        eq("take", x.take(2), 1);
        x.sets(0, true);
        x.sets(1, true);
        x.await(3);
        x.await(99);
        x.see(0, 3, true);
        x.see(0, 480, true);
        x.image();
        Tape.feed(x, "day 20;sun 0;       day 20;");
        counts(x, 15, 40);
        eq("plan(13)", x.plan(13), 2);
        counts(x, 0, 4, 1, 30, 5, 12, 6, 1, 7, 4, 8, 5, 9, 1, 10, 1, 11, 3, 13, 5, 14, 1, 15, 0, 16, 1, 17, 1, 18, 1);
        eq("sky(0, 0)", x.sky(0, 0), 1);
        illegal("plan(1) of an empty tape", () -> x.plan(1));
        illegal("plan(-1)", () -> x.plan(-1));
        Tape.feed(x, "day 20;cloud 1;sun 2;rule 1;");
        illegal("plan(41)", () -> x.plan(41));
        illegal("plan(-1)", () -> x.plan(-1));
        counts(x, 15, 40, 16, 1);
        eq("fault()", x.fault(), 11);
        eq("plan(28)", x.plan(28), 0);
        counts(x, 0, 0, 1, 20, 2, 50, 3, 1, 4, 1, 5, 0, 6, 0, 7, 0, 8, 0, 9, 0, 10, 0, 11, 0, 13, 0, 14, 0, 15, 0);
        // The refused calls of before are told still.
        counts(x, 16, 1, 17, 1, 18, 1);
        eq("sky(0, 0)", x.sky(0, 0), 0);
        eq("sky(1, 1)", x.sky(1, 1), 2);
        eq("restore()", x.restore(), false);
        eq("undo()", x.undo(), NONE);
        eq("plan(0)", x.plan(0), 0);
        counts(x, 0, 0, 1, 240, 4, 0);
        eq("sky(1, 0)", x.sky(1, 0), 0);
        CloudTakes y = Tape.planned("wide 0 1 0 9;wide 0 1 0 9;");
        eq("a take of a shot", y.take(1), 1);
        eq("anew", Tape.plan(y, "wide 0 1 0 9;wide 0 1 0 9;"), 0);
        counts(y, 7, 0, 5, 0);
        again();
        eq("a sky longer than the day", Tape.plan(y, "sun 480;".repeat(16) + "day 10;"), 0);
        eq("sky(0, 1)", y.sky(0, 1), 10);
    }

    /** Nothing of an earlier plan, nor of one with a fault, is left in a later one. */
    private static void again() {
        String full = "sun 9;".repeat(16) + "day 400;move 7;cold 8;wide 0 3 0 9;near 0 2 0 9 after 0;"
                + "rule 0;".repeat(4);
        CloudTakes x = Tape.planned(full);
        x.take(0);
        for (int i = 0; i < 3; i++) {
            int rules = x.count(4);
            eq("with a fault", Tape.plan(x, full + "x"), 1);
            counts(x, 4, rules);
            eq("once more", Tape.plan(x, full), 0);
            counts(x, 0, 2, 1, 400, 2, 7, 3, 8, 4, 4);
            eq("sky(143, 1)", x.sky(143, 1), 1);
            eq("day by a rule", x.day(3, 0), 0);
            x.clouds(1, 1, false);
            eq("spoilt", x.take(0), 0);
            eq("another one", Tape.plan(x, "cloud 2;sun 2;wide 0 3 0 9;wide 0 2 0 9;rule length;"), 0);
            counts(x, 0, 2, 1, 240, 2, 50, 3, 1, 4, 1, 5, 0, 7, 0, 8, 0);
            eq("sky(0, 1)", x.sky(0, 1), 2);
            eq("sky(4, 1)", x.sky(4, 1), 236);
            eq("shot(1, 5)", x.shot(1, 5), NONE);
            eq("shot(0, 7)", x.shot(0, 7), 0);
            eq("day by a rule", x.day(0, 0), 2);
        }
    }

    private static void fault() {
        promise = "4";
        CloudTakes x = new CloudTakes();
        eq("fault", Tape.plan(x, "sun 5; cloud x;"), 1);
        eq("fault()", x.fault(), 13);
        eq("good", Tape.plan(x, "sun 5;"), 0);
        eq("fault()", x.fault(), NONE);
        eq("too soon", Tape.plan(x, "sun 5"), 1);
        eq("fault()", x.fault(), 5);
        illegal("plan(21)", () -> x.plan(21));
        eq("fault() stays", x.fault(), 5);
        counts(x, 16, 2);
    }

    private static void count() {
        promise = "5";
        CloudTakes x = Tape.planned(PLAN);
        counts(x, 0, 4, 1, 30, 2, 4, 3, 2, 4, 2);
        x.await(7);
        counts(x, 5, 7, 11, 7, 12, 14);
        x.await(23);
        counts(x, 5, 30, 11, 30, 12, 60);
        noSuch("count(-1)", () -> x.count(-1));
        noSuch("count(19)", () -> x.count(19));
        CloudTakes y = Tape.planned("cold 9;");
        y.await(11);
        counts(y, 12, 99);
        y.await(1);
        counts(y, 11, 12, 12, 100);
        CloudTakes z = Tape.planned("cold 0;");
        z.await(60);
        counts(z, 3, 0, 11, 60, 12, 0);
    }

    private static void shot() {
        promise = "6";
        CloudTakes x = Tape.planned(PLAN);
        int[] due = {0, 1, 6, 0, 30, 0, 0, 0};
        for (int what = 0; what < 8; what++) {
            eq("shot(3, " + what + ")", x.shot(3, what), due[what]);
        }
        eq("near", x.shot(1, 0), 1);
        eq("inside", x.shot(2, 0), 2);
        eq("after", x.shot(0, 5), NONE);
        x.take(0);
        x.take(3);
        eq("had", x.shot(0, 6), 1);
        eq("spoilt", x.shot(3, 7), 1);
        eq("not had", x.shot(3, 6), 0);
        noSuch("shot(4, 0)", () -> x.shot(4, 0));
        noSuch("shot(-1, 0)", () -> x.shot(-1, 0));
        noSuch("shot(0, 8)", () -> x.shot(0, 8));
        noSuch("shot(0, -1)", () -> x.shot(0, -1));
    }

    private static void sky() {
        promise = "7";
        CloudTakes x = Tape.planned(PLAN);
        eq("sky(4, 0)", x.sky(4, 0), 1);
        eq("sky(4, 1)", x.sky(4, 1), 1);
        eq("sky(5, 0)", x.sky(5, 0), 0);
        eq("sky(6, 1)", x.sky(6, 1), 2);
        eq("sky(29, 1)", x.sky(29, 1), 1);
        noSuch("sky(30, 0)", () -> x.sky(30, 0));
        noSuch("sky(-1, 0)", () -> x.sky(-1, 0));
        noSuch("sky(0, 2)", () -> x.sky(0, 2));
        noSuch("sky(0, -1)", () -> x.sky(0, -1));
        CloudTakes y = Tape.planned("sun 5;sun 5;cloud 2;day 480;sun 480;");
        eq("two parts of sun", y.sky(0, 1), 10);
        eq("sun to the end of the day", y.sky(12, 1), 468);
        eq("sky(479, 0)", y.sky(479, 0), 1);
    }

    private static void why() {
        promise = "8";
        CloudTakes x = Tape.planned(PLAN);
        eq("can", x.why(0, 0), 0);
        eq("would be spoilt, but can", x.why(0, 4), 0);
        eq("after", x.why(3, 5), 2);
        eq("place", x.why(2, 29), 3);
        eq("window", x.why(0, 21), 4);
        eq("the window's last minute", x.why(0, 20), 5);
        eq("light", x.why(1, 8), 5);
        eq("just ended by the day's end", x.why(1, 27), 0);
        eq("end", x.why(1, 28), 6);
        x.take(0);
        eq("had", x.why(0, 21), 1);
        x.move(true);
        eq("out", x.why(3, 0), 3);
        eq("inside in any light", x.why(2, 25), 0);
        eq("end", x.why(2, 26), 6);
        noSuch("why(4, 0)", () -> x.why(4, 0));
        noSuch("why(0, 30)", () -> x.why(0, 30));
        noSuch("why(0, -1)", () -> x.why(0, -1));
        CloudTakes y = Tape.planned("sun 5;inside 2 1 0 9;near 1 9 3 9;near 2 9 3 9;move 0;");
        eq("ahead of the window", y.why(1, 2), 4);
        eq("sun", y.why(1, 3), 0);
        eq("cloud", y.why(2, 3), 5);
        y.sets(1, true);
        eq("silk is cloud", y.why(1, 3), 5);
        eq("silk is cloud", y.why(2, 3), 0);
        y.sets(0, true);
        eq("lamps go ahead of silk", y.why(1, 9), 0);
        eq("lamps go ahead of silk", y.why(2, 9), 5);
        y.move(true);
        eq("inside needs no light", y.why(0, 0), 0);
    }

    private static void ready() {
        promise = "9";
        CloudTakes x = Tape.planned(PLAN);
        eq("ready(0)", x.ready(0), 1);
        eq("ready(5)", x.ready(5), 2);
        eq("ready(29)", x.ready(29), 0);
        x.take(0);
        eq("ready(8)", x.ready(8), 8);
        x.move(true);
        eq("ready(0) inside", x.ready(0), 4);
        noSuch("ready(30)", () -> x.ready(30));
        noSuch("ready(-1)", () -> x.ready(-1));
    }

    private static void edge() {
        promise = "10";
        CloudTakes x = Tape.planned(PLAN);
        eq("edge(0)", x.edge(0), 5);
        eq("edge(4)", x.edge(4), 5);
        eq("edge(5)", x.edge(5), 8);
        eq("edge(17)", x.edge(17), 18);
        eq("edge(18)", x.edge(18), NONE);
        eq("edge(29)", x.edge(29), NONE);
        noSuch("edge(30)", () -> x.edge(30));
        noSuch("edge(-1)", () -> x.edge(-1));
        x.clouds(29, 29, true);
        eq("edge(18)", x.edge(18), 29);
    }

    private static void take() {
        promise = "11";
        CloudTakes x = Tape.planned(PLAN);
        eq("after", x.take(3), NONE);
        eq("take(0)", x.take(0), 1);
        counts(x, 5, 4, 7, 1, 8, 4, 13, 1, 17, 1);
        eq("spoilt by the edge at 5", x.take(3), 0);
        counts(x, 5, 6, 7, 1, 8, 6, 13, 2);
        eq("spoilt by the edge at 8", x.take(1), 0);
        counts(x, 5, 9, 8, 9);
        eq("had", x.take(0), NONE);
        eq("place", x.take(2), NONE);
        counts(x, 13, 3, 17, 3);
        x.await(21);
        eq("the day is over", x.take(3), NONE);
        counts(x, 17, 4);
        noSuch("take(4)", () -> x.take(4));
        noSuch("take(-1)", () -> x.take(-1));
        counts(x, 17, 4);
        CloudTakes y = Tape.planned("sun 3;near 0 5 0 9;near 0 5 0 9;wide 0 5 0 9;day 20;");
        y.await(1);
        y.sets(1, true);
        eq("silk's light has no edge", y.take(0), 1);
        counts(y, 5, 6, 11, 0);
        eq("any light, but one", y.take(2), 1);
        y.undo();
        y.undo();
        y.undo();
        eq("any light, but one", y.take(2), 0);
        counts(y, 5, 4, 8, 3, 11, 0);
        CloudTakes z = Tape.planned("wide 0 10 0 0;day 10;");
        eq("up to the end of the day", z.take(0), 1);
        counts(z, 5, 10);
    }

    private static void await() {
        promise = "12";
        CloudTakes x = Tape.planned(PLAN);
        eq("await(1)", x.await(1), 1);
        eq("await(0)", x.await(0), NONE);
        eq("await(-1)", x.await(-1), NONE);
        eq("behind the day", x.await(30), NONE);
        eq("to the day's end", x.await(29), 30);
        eq("behind the day", x.await(1), NONE);
        counts(x, 5, 30, 11, 30, 13, 2, 17, 4);
        CloudTakes y = new CloudTakes();
        eq("await(61)", y.await(61), NONE);
        eq("await(60)", y.await(60), 60);
        eq("a great number", y.await(Integer.MAX_VALUE), NONE);
        counts(y, 17, 2);
    }

    private static void move() {
        promise = "13";
        CloudTakes x = Tape.planned(PLAN);
        eq("out already", x.move(false), NONE);
        x.await(2);
        eq("move(true)", x.move(true), 6);
        counts(x, 6, 1, 11, 0);
        eq("inside already", x.move(true), NONE);
        x.await(20);
        eq("to the day's end", x.move(false), 30);
        counts(x, 5, 30, 6, 0, 17, 2);
        x.undo();
        x.await(1);
        eq("behind the day", x.move(false), NONE);
        counts(x, 5, 27, 6, 1, 17, 3);
        CloudTakes y = Tape.planned("move 0;day 10;");
        y.await(10);
        eq("a move of no minutes", y.move(true), 10);
    }

    private static void sets() {
        promise = "14";
        CloudTakes x = Tape.planned(PLAN);
        eq("sets(0, true)", x.sets(0, true), false);
        eq("sets(0, true)", x.sets(0, true), true);
        eq("sets(1, true)", x.sets(1, true), false);
        counts(x, 9, 1, 10, 1, 13, 3);
        eq("sets(0, false)", x.sets(0, false), true);
        eq("sets(0, false)", x.sets(0, false), false);
        counts(x, 9, 0, 10, 1, 13, 5);
        noSuch("sets(2, true)", () -> x.sets(2, true));
        noSuch("sets(-1, true)", () -> x.sets(-1, true));
        counts(x, 13, 5, 17, 0);
        x.await(30);
        eq("when the day is over", x.sets(1, false), true);
    }

    private static void clouds() {
        promise = "15";
        CloudTakes x = Tape.planned(PLAN);
        eq("clouds(3, 9, true)", x.clouds(3, 9, true), 3);
        eq("sky(0, 1)", x.sky(0, 1), 18);
        eq("clouds(0, 29, false)", x.clouds(0, 29, false), 18);
        eq("clouds(0, 29, false)", x.clouds(0, 29, false), 0);
        eq("clouds(29, 29, true)", x.clouds(29, 29, true), 1);
        counts(x, 13, 4);
        eq("clouds(5, 4, true)", x.clouds(5, 4, true), NONE);
        eq("clouds(0, 30, true)", x.clouds(0, 30, true), NONE);
        eq("clouds(-1, 4, true)", x.clouds(-1, 4, true), NONE);
        eq("clouds(30, 30, true)", x.clouds(30, 30, true), NONE);
        counts(x, 13, 4, 17, 4);
        x.await(5);
        eq("minutes gone by", x.clouds(0, 1, true), 2);
        eq("sky(0, 1)", x.sky(0, 1), 2);
    }

    private static void undo() {
        promise = "16";
        CloudTakes x = Tape.planned(PLAN);
        x.await(4);
        x.take(0);
        x.sets(0, true);
        x.sets(1, true);
        x.clouds(0, 29, true);
        x.move(true);
        x.see(0, 0, true);
        x.take(0);
        counts(x, 5, 10, 6, 1, 8, 2, 11, 0, 13, 6, 17, 1);
        eq("the move", x.undo(), 5);
        counts(x, 5, 6, 6, 0, 14, 1, 17, 1);
        eq("the clouds", x.undo(), 4);
        eq("sky(0, 1)", x.sky(0, 1), 5);
        eq("sky(8, 1)", x.sky(8, 1), 10);
        eq("the silk", x.undo(), 3);
        counts(x, 9, 1, 10, 0);
        eq("the lamps", x.undo(), 2);
        counts(x, 9, 0, 8, 2, 5, 6);
        eq("shot(0, 7)", x.shot(0, 7), 1);
        eq("the spoilt take", x.undo(), 1);
        eq("shot(0, 7)", x.shot(0, 7), 0);
        counts(x, 8, 0, 5, 4, 11, 4);
        eq("waiting", x.undo(), 0);
        counts(x, 5, 0, 11, 0);
        eq("none", x.undo(), NONE);
        counts(x, 17, 1);
        x.take(0);
        counts(x, 7, 1);
        x.undo();
        counts(x, 7, 0, 8, 0, 5, 0);
        CloudTakes y = Tape.planned("day 480;");
        for (int i = 0; i < 45; i++) {
            y.await(1);
        }
        counts(y, 13, 40, 5, 45);
        for (int i = 39; i >= 0; i--) {
            eq("undo()", y.undo(), i);
        }
        eq("the first five are kept no more", y.undo(), NONE);
        counts(y, 5, 5, 11, 5);
    }

    private static void day() {
        promise = "17";
        CloudTakes x = Tape.planned(PLAN);
        int[] none = {4, 23, 2, 30, 15};
        int[] first = {3, 13, 0, 21, 11};
        for (int what = 0; what < 5; what++) {
            eq("day(NONE, " + what + ")", x.day(NONE, what), none[what]);
            eq("day(0, " + what + ")", x.day(0, what), first[what]);
        }
        counts(x, 5, 0, 7, 0, 8, 0, 13, 0);
        noSuch("day(2, 0)", () -> x.day(2, 0));
        noSuch("day(-2, 0)", () -> x.day(-2, 0));
        noSuch("day(0, 5)", () -> x.day(0, 5));
        noSuch("day(0, -1)", () -> x.day(0, -1));
        x.take(0);
        eq("what is had already isn't had in it", x.day(0, 0), 2);
        eq("film in it alone", x.day(0, 1), 9);
        eq("bits", x.day(0, 4), 10);
        x.await(26);
        eq("the day is over", x.day(NONE, 0), 0);
        eq("no minute", x.day(NONE, 3), NONE);
        CloudTakes y = Tape.planned("wide 1 2 0 9;inside 0 2 0 9;move 8;day 10;");
        eq("one does not leave a shot that waits for sun", y.day(NONE, 0), 0);
        eq("idle", y.idle(NONE, 0), 10);
        CloudTakes z = Tape.planned("inside 0 1 0 9;move 9;day 10;");
        eq("now and move are less than the day", z.day(NONE, 0), 1);
        z.await(1);
        eq("now and move are the day", z.idle(NONE, 1), 0);
        CloudTakes v = Tape.planned("move 0;day 10;inside 0 1 0 9;wide 0 1 0 9 after 0;inside 0 1 0 9 after 1;");
        eq("to and fro in no time", v.day(NONE, 3), 3);
        eq("moves", v.idle(NONE, 1), 3);
        eq("waiting", v.idle(NONE, 0), 7);
        CloudTakes w = Tape.planned("sun 2;cloud 2;sun 2;wide 0 3 0 9;day 10;");
        eq("spoilt in 2, 4 and 6: each counts", w.day(NONE, 2), 3);
        eq("film 3 and 2 and 2 and 3", w.day(NONE, 1), 10);
    }

    /** Which of two shots of like light a rule takes first tells what it gives. */
    private static void rules() {
        promise = "17 (rules)";
        gives("9999*9999*9999", false);
        gives("0-9999*9999*9999", true);
        gives("1-2-3", false);
        gives("2*3-5", true);
        gives("7/2-3", false);
        gives("7/2-2", true);
        gives("(0-7)/2+4", true);
        gives("(0-7)/2+3", false);
        gives("1/0", false);
        gives("1/0+1", true);
        gives("8/2/4", true);
        gives("8/2/5", false);
        gives("2<3", true);
        gives("3<3", false);
        gives("3=3", true);
        gives("3=2", false);
        gives("not 0", true);
        gives("not 5", false);
        gives("not not 5", true);
        gives("not 1<0", true);
        gives("not 1 or 1", true);
        gives("1 and 2", true);
        gives("1 and 0", false);
        gives("0 and 0 or 1", true);
        gives("1 or 0 and 0", true);
        gives("(1 or 0) and 0", false);
        gives("(5 and 5)-1", false);
        gives("(0 or 7)-1", false);
        gives("(1<2)+(1<2)-1", true);
        gives("1+1<2+1", true);
        gives("length=2", true);
        gives("kind=0", true);
        gives("light=1", true);
        gives("left=5", true);
        gives("until=6", true);
        gives("hour=0", true);
        gives("waited=0", true);
        gives("tries=0", true);
        for (int inner = 0; inner < 2; inner++) {
            String deep = "0 or 1 and 0<0+1*(".repeat(5) + "0 or 1 and 0<0+1*" + inner + ")".repeat(5);
            CloudTakes d = Tape.planned("day 10;wide 0 2 0 5;rule " + deep + ";");
            eq("as deep as can be", d.day(0, 0), inner);
        }
        CloudTakes x = Tape.planned("day 480;wide 2 3 100 200;near 0 1 0 300;rule hour*0+(kind=1 and hour=2);"
                + "rule (kind=0)*(until<3);rule kind=1 and waited=130;rule kind and left<351;");
        eq("hour", x.idle(0, 0), 480 - 1);
        eq("hour, the first minute", x.day(0, 3), 121);
        eq("until", x.day(1, 3), 202);
        eq("waited", x.day(2, 3), 131);
        eq("left is told to the end of the day", x.day(3, 3), 131);
        x.await(60);
        eq("waited goes on from now", x.day(2, 3), 131);
        CloudTakes y = Tape.planned("day 30;sun 1;cloud 1;sun 1;cloud 1;wide 0 2 0 29;rule tries<2;rule 1+0*tries;");
        eq("tries", y.day(0, 2), 2);
        eq("tries: no third one", y.day(0, 0), 0);
        eq("film of two tries", y.day(0, 1), 4);
        eq("all tries", y.day(1, 0), 1);
        y.take(0);
        eq("tries go on from now", y.day(0, 2), 1);
        CloudTakes z = Tape.planned("day 20;wide 0 1 0 9;wide 0 2 0 9;wide 0 2 0 9;rule length;rule 3-length;");
        eq("the most, of like ones the least", z.see(1, 1, true), 1);
        eq("which()", z.which(), 1);
        z.forget();
        z.see(0, 0, true);
        z.see(1, 2, true);
        eq("which()", z.which(), 18);
    }

    /** A rule's worth is above 0, or it isn't, for the one shot there is. */
    private static void gives(String rule, boolean above) {
        CloudTakes x = Tape.planned("sun 5;day 10;wide 1 2 0 5;rule (" + rule + ");");
        eq("in minute 0 '" + rule + "' is above 0", x.day(0, 3) == 2, above);
    }

    private static void best() {
        promise = "18";
        CloudTakes x = Tape.planned(PLAN);
        eq("none stands ahead", x.best(), NONE);
        CloudTakes y = Tape.planned(SKY + "wide 1 6 0 30;rule 1;rule left+1-length;rule left/length;");
        eq("less film, the first of like ones", y.best(), 1);
        CloudTakes z = Tape.planned("sun 5;day 10;wide 0 3 0 9;wide 0 5 0 9;rule 0;rule length;");
        eq("more shots", z.day(NONE, 0), 1);
        eq("more shots", z.best(), 1);
        eq("no shots", Tape.planned("rule 1;").best(), NONE);
    }

    private static void most() {
        promise = "19";
        CloudTakes x = Tape.planned(PLAN);
        eq("most(0)", x.most(0), 4);
        eq("most(1)", x.most(1), 23);
        eq("most(2)", x.most(2), 15);
        noSuch("most(3)", () -> x.most(3));
        noSuch("most(-1)", () -> x.most(-1));
        x.take(0);
        eq("of those that aren't had", x.most(0), 3);
        eq("which", x.most(2), 14);
        x.await(26);
        eq("none", x.most(0), 0);
        eq("NOW of none", x.most(1), 30);
        eq("none", x.most(2), 0);
        CloudTakes y = Tape.planned("day 10;wide 0 6 0 9;wide 0 5 1 9;wide 0 6 0 9;");
        eq("one of them", y.most(0), 1);
        eq("the soonest", y.most(1), 6);
        eq("then the least", y.most(2), 1);
        CloudTakes z = Tape.planned("day 10;wide 0 6 0 9;wide 0 5 0 9;");
        eq("the soonest goes ahead of the least", z.most(2), 2);
    }

    private static void order() {
        promise = "20";
        CloudTakes x = Tape.planned(PLAN);
        int[] due = {0, 1, 3, 2};
        for (int i = 0; i < 4; i++) {
            eq("order(" + i + ")", x.order(i), due[i]);
        }
        noSuch("order(4)", () -> x.order(4));
        noSuch("order(-1)", () -> x.order(-1));
        noSuch("order(0) of none", () -> new CloudTakes().order(0));
        CloudTakes v = Tape.planned("day 480;wide 0 30 450 480;inside 0 30 0 480;move 0;");
        eq("to the end of the longest day", v.most(1), 480);
        eq("order(0)", v.order(0), 1);
        eq("order(1)", v.order(1), 0);
        for (int i = 0; i < 8; i++) {
            v.await(60);
        }
        eq("the longest day is over", v.most(0), 0);
        CloudTakes y = Tape.planned("day 20;wide 0 3 4 9;wide 0 2 0 9;wide 0 2 0 9;");
        // 0 can begin in 4; both others fit ahead of it: all by 7.
        eq("by when", y.most(1), 7);
        eq("order(0)", y.order(0), 1);
        eq("order(1)", y.order(1), 2);
        eq("order(2)", y.order(2), 0);
        CloudTakes z = Tape.planned("day 20;inside 0 2 0 19;wide 0 2 0 19;wide 0 2 9 19;move 3;");
        // 1 ahead of moving inside and back, or behind it: by 12 each.
        eq("by when", z.most(1), 12);
        eq("order(0)", z.order(0), 0);
        eq("order(1)", z.order(1), 1);
        eq("order(2)", z.order(2), 2);
    }

    private static void soonest() {
        promise = "21";
        CloudTakes x = Tape.planned(PLAN);
        eq("soonest(0)", x.soonest(0), 0);
        eq("soonest(4)", x.soonest(4), 9);
        eq("soonest(9)", x.soonest(9), 14);
        eq("without what it is after", x.soonest(8), NONE);
        eq("soonest(15)", x.soonest(15), 23);
        illegal("soonest(16)", () -> x.soonest(16));
        illegal("soonest(-1)", () -> x.soonest(-1));
        x.take(0);
        eq("soonest(8)", x.soonest(8), 14);
        eq("soonest(0)", x.soonest(0), 4);
        illegal("had", () -> x.soonest(9));
        x.await(9);
        eq("too late", x.soonest(8), NONE);
    }

    private static void inside() {
        promise = "22";
        CloudTakes x = Tape.planned(PLAN);
        eq("inside()", x.inside(), 21);
        x.await(21);
        eq("just yet", x.inside(), 21);
        x.await(1);
        eq("too late", x.inside(), NONE);
        x.undo();
        x.move(true);
        eq("all are inside", x.inside(), NONE);
        eq("no such shots", Tape.planned("wide 0 1 0 9;").inside(), NONE);
        CloudTakes y = Tape.planned("day 40;move 5;wide 0 9 0 0;inside 0 4 0 20 after 0;inside 1 3 0 30 after 1;"
                + "inside 2 2 0 18;");
        // 3 by 18 and 1 by 20 at the latest: 3 in 18, 1 in 20, 2 in 24; begun to move in 13.
        eq("windows and after", y.inside(), 13);
        y.sets(0, true);
        y.clouds(0, 39, true);
        eq("whatever the light", y.inside(), 13);
        CloudTakes z = Tape.planned("day 10;move 0;inside 0 10 0 9;");
        eq("in minute 0", z.inside(), 0);
        z.await(1);
        eq("a minute late", z.inside(), NONE);
        eq("the longest day", Tape.planned("day 480;move 0;inside 0 1 0 480;").inside(), 479);
    }

    private static void worth() {
        promise = "23";
        CloudTakes x = Tape.planned(PLAN);
        eq("worth(0)", x.worth(0), -1);
        eq("worth(1)", x.worth(1), 0);
        noSuch("worth(2)", () -> x.worth(2));
        noSuch("worth(-1)", () -> x.worth(-1));
        CloudTakes y = Tape.planned("day 10;near 1 5 0 9;near 0 5 0 9;");
        eq("lamps", y.worth(0), 1);
        eq("silk", y.worth(1), 0);
        y.sets(0, true);
        eq("on now", y.worth(0), 1);
        counts(y, 9, 1);
        CloudTakes z = Tape.planned("sun 10;day 10;near 2 5 0 9;");
        eq("silk", z.worth(1), 1);
        z.sets(0, true);
        eq("lamps go ahead of silk", z.worth(1), 0);
        z.sets(1, true);
        eq("lamps against silk", z.worth(0), -1);
    }

    private static void chances() {
        promise = "24";
        CloudTakes x = Tape.planned(PLAN);
        int[] many = {9, 11, 26, 5};
        int[] first = {0, 5, 0, 8};
        for (int shot = 0; shot < 4; shot++) {
            eq("chances(" + shot + ", 0)", x.chances(shot, 0), many[shot]);
            eq("chances(" + shot + ", 1)", x.chances(shot, 1), first[shot]);
        }
        noSuch("chances(4, 0)", () -> x.chances(4, 0));
        noSuch("chances(0, 2)", () -> x.chances(0, 2));
        noSuch("chances(0, -1)", () -> x.chances(0, -1));
        x.take(0);
        eq("had, from 4 on", x.chances(0, 0), 7);
        eq("the first", x.chances(0, 1), 8);
        x.sets(1, true);
        eq("silk, from 4 on", x.chances(1, 0), 24);
        x.sets(0, true);
        eq("lamps", x.chances(1, 0), 0);
        eq("none", x.chances(1, 1), NONE);
        x.await(26);
        eq("the day is over", x.chances(2, 0), 0);
    }

    private static void without() {
        promise = "25";
        CloudTakes x = Tape.planned(PLAN);
        eq("without(0)", x.without(0), 2);
        eq("without(1)", x.without(1), 1);
        eq("without(3)", x.without(3), 1);
        noSuch("without(4)", () -> x.without(4));
        noSuch("without(-1)", () -> x.without(-1));
        x.take(0);
        eq("had", x.without(0), 0);
        eq("not among the most", Tape.planned("day 10;wide 0 9 0 9;wide 0 5 0 9;").without(0), 0);
        eq("another in its place", Tape.planned("day 10;wide 0 9 0 9;wide 0 5 0 9;").without(1), 0);
    }

    private static void shorter() {
        promise = "26";
        CloudTakes x = Tape.planned(PLAN);
        eq("shorter(0)", x.shorter(0), 4);
        eq("shorter(7)", x.shorter(7), 4);
        eq("shorter(8)", x.shorter(8), 3);
        eq("shorter(26)", x.shorter(26), 1);
        eq("shorter(27)", x.shorter(27), 0);
        eq("shorter(480)", x.shorter(480), 0);
        illegal("shorter(-1)", () -> x.shorter(-1));
        illegal("shorter(481)", () -> x.shorter(481));
        x.await(8);
        eq("to NOW at the least", x.shorter(480), 0);
        eq("shorter(18)", x.shorter(18), 1);
        counts(x, 1, 30);
    }

    private static void idle() {
        promise = "27";
        CloudTakes x = Tape.planned(PLAN);
        eq("idle(NONE, 0)", x.idle(NONE, 0), 3);
        eq("idle(NONE, 1)", x.idle(NONE, 1), 1);
        eq("idle(0, 0)", x.idle(0, 0), 13);
        eq("idle(0, 1)", x.idle(0, 1), 1);
        noSuch("idle(2, 0)", () -> x.idle(2, 0));
        noSuch("idle(-2, 0)", () -> x.idle(-2, 0));
        noSuch("idle(0, 2)", () -> x.idle(0, 2));
        noSuch("idle(0, -1)", () -> x.idle(0, -1));
        x.await(30);
        eq("the day is over", x.idle(NONE, 0), 0);
    }

    private static void regret() {
        promise = "28";
        eq("none", Tape.planned(PLAN).regret(), 0);
        // By none 0 is taken first, and 1 has no time behind it; the best has both.
        CloudTakes x = Tape.planned("day 10;wide 0 5 0 9;wide 0 3 0 2;rule 0;");
        eq("most(0)", x.most(0), 2);
        eq("day(NONE, 0)", x.day(NONE, 0), 1);
        eq("regret()", x.regret(), 1);
        eq("by a good rule", Tape.planned("day 10;wide 0 5 0 9;wide 0 3 0 2;rule 9-length;").regret(), 0);
    }

    private static void holes() {
        promise = "29";
        CloudTakes x = Tape.planned(PLAN);
        eq("holes(1)", x.holes(1), 2);
        eq("holes(5)", x.holes(5), 2);
        eq("holes(6)", x.holes(6), 1);
        eq("holes(10)", x.holes(10), 1);
        eq("holes(11)", x.holes(11), 0);
        eq("holes(480)", x.holes(480), 0);
        illegal("holes(0)", () -> x.holes(0));
        illegal("holes(481)", () -> x.holes(481));
        x.await(10);
        eq("of the whole day", x.holes(1), 2);
        x.clouds(29, 29, true);
        eq("the day's last minute", x.holes(1), 3);
        eq("parts side by side are one", Tape.planned("sun 2;sun 3;").holes(5), 1);
    }

    private static void hole() {
        promise = "30";
        CloudTakes x = Tape.planned(PLAN);
        int[] due = {15, 2, 10, 8};
        for (int what = 0; what < 4; what++) {
            eq("hole(" + what + ")", x.hole(what), due[what]);
        }
        noSuch("hole(4)", () -> x.hole(4));
        noSuch("hole(-1)", () -> x.hole(-1));
        CloudTakes y = Tape.planned("cloud 1;sun 3;cloud 1;sun 3;cloud 1;sun 3;");
        int[] same = {3, 1, 3, 1};
        int[] without = {0, 1, 0, NONE};
        for (int what = 0; what < 4; what++) {
            eq("hole(" + what + ")", y.hole(what), same[what]);
            eq("hole(" + what + ") without", new CloudTakes().hole(what), without[what]);
        }
        CloudTakes z = Tape.planned("sun 480;day 480;");
        eq("all day", z.hole(2), 480);
        eq("all day", z.hole(3), 0);
    }

    private static void lasts() {
        promise = "31";
        CloudTakes x = new CloudTakes();
        eq("lasts(5, 2, 0)", x.lasts(5, 2, 0), 1);
        eq("lasts(5, 2, 1)", x.lasts(5, 2, 1), 4);
        eq("lasts(6, 3, 0)", x.lasts(6, 3, 0), 27);
        eq("lasts(6, 3, 1)", x.lasts(6, 3, 1), 125);
        eq("lasts(9, 9, 0)", x.lasts(9, 9, 0), 387420489);
        eq("lasts(9, 9, 1)", x.lasts(9, 9, 1), 1000000000);
        eq("lasts(0, 9, 0)", x.lasts(0, 9, 0), 0);
        eq("lasts(0, 9, 1)", x.lasts(0, 9, 1), 1);
        eq("lasts(10, 1, 0)", x.lasts(10, 1, 0), 1);
        eq("lasts(10, 1, 1)", x.lasts(10, 1, 1), 1);
        illegal("lasts(11, 1, 0)", () -> x.lasts(11, 1, 0));
        illegal("lasts(-1, 1, 0)", () -> x.lasts(-1, 1, 0));
        illegal("lasts(1, 0, 0)", () -> x.lasts(1, 0, 0));
        illegal("lasts(1, 10, 1)", () -> x.lasts(1, 10, 1));
        noSuch("lasts(1, 1, 2)", () -> x.lasts(1, 1, 2));
        noSuch("lasts(11, 0, -1)", () -> x.lasts(11, 0, -1));
    }

    private static void trial() {
        promise = "32";
        CloudTakes x = new CloudTakes();
        eq("trial(10, 3, 100, 5)", x.trial(10, 3, 100, 5), 85000);
        eq("trial(5, 1, 10, 2)", x.trial(5, 1, 10, 2), 30);
        eq("trial(0, 2, 9, 3)", x.trial(0, 2, 9, 3), -300);
        // 25 of 100: 10 - 4; 50 of 100: -2; 25 of 100: -4.
        eq("trial(5, 2, 10, 2)", x.trial(5, 2, 10, 2), 150 - 100 - 100);
        eq("trial(10, 9, 999, 0)", x.trial(10, 9, 999, 0), 999000000000L);
        eq("trial(10, 9, 0, 99)", x.trial(10, 9, 0, 99), -891000000000L);
        illegal("trial(11, 1, 1, 1)", () -> x.trial(11, 1, 1, 1));
        illegal("trial(-1, 1, 1, 1)", () -> x.trial(-1, 1, 1, 1));
        illegal("trial(1, 0, 1, 1)", () -> x.trial(1, 0, 1, 1));
        illegal("trial(1, 10, 1, 1)", () -> x.trial(1, 10, 1, 1));
        illegal("trial(1, 1, -1, 1)", () -> x.trial(1, 1, -1, 1));
        illegal("trial(1, 1, 1000, 1)", () -> x.trial(1, 1, 1000, 1));
        illegal("trial(1, 1, 1, -1)", () -> x.trial(1, 1, 1, -1));
        illegal("trial(1, 1, 1, 100)", () -> x.trial(1, 1, 1, 100));
    }

    private static void see() {
        promise = "33";
        CloudTakes x = Tape.planned(PLAN);
        eq("see(0, 480, true)", x.see(0, 480, true), NONE);
        eq("see(0, -1, true)", x.see(0, -1, true), NONE);
        eq("behind the day, but a minute", x.see(0, 479, true), 1);
        for (int i = 2; i <= 8; i++) {
            eq("see", x.see(3, 0, false), i);
        }
        eq("a ninth", x.see(3, 0, false), NONE);
        counts(x, 14, 8, 18, 3, 17, 0);
        noSuch("see(4, 0, true)", () -> x.see(4, 0, true));
        noSuch("see(-1, 480, true)", () -> x.see(-1, 480, true));
        counts(x, 14, 8, 18, 3, 13, 0);
    }

    private static void which() {
        promise = "34";
        CloudTakes x = Tape.planned(PLAN);
        eq("all", x.which(), 19);
        x.see(0, 3, true);
        eq("by the end of minute 3", x.which(), 19);
        x.see(0, 2, false);
        eq("not by the end of minute 2", x.which(), 19);
        x.see(3, 13, true);
        eq("rule 0 alone", x.which(), 1);
        x.see(2, 479, true);
        eq("none", x.which(), 0);
        x.forget();
        x.see(2, 479, false);
        eq("rule 0 alone", x.which(), 1);
        x.forget();
        x.take(0);
        x.see(0, 0, true);
        eq("what is had now was", x.which(), 19);
        x.see(0, 0, false);
        eq("never", x.which(), 0);
        eq("no rules", new CloudTakes().which(), 16);
    }

    private static void forget() {
        promise = "35";
        CloudTakes x = Tape.planned(PLAN);
        x.forget();
        x.see(0, 0, true);
        x.see(0, 480, true);
        eq("which()", x.which(), 0);
        x.forget();
        counts(x, 14, 0, 18, 1);
        eq("which()", x.which(), 19);
    }

    private static void week() {
        promise = "36";
        CloudTakes x = Tape.planned(PLAN);
        noSuch("week(2, 1, 1, 0)", () -> x.week(2, 1, 1, 0));
        noSuch("week(-2, 1, 11, 0)", () -> x.week(-2, 1, 11, 0));
        noSuch("week(0, 1, 11, 3)", () -> x.week(0, 1, 11, 3));
        noSuch("week(0, 1, 1, -1)", () -> x.week(0, 1, 1, -1));
        illegal("week(0, 1, 11, 0)", () -> x.week(0, 1, 11, 0));
        illegal("week(0, 1, -1, 2)", () -> x.week(0, 1, -1, 2));
        for (int what = 0; what < 3; what++) {
            eq("no days", x.week(0, 5, 0, what), 0);
        }
        // Seed 0: 12345 draws 0 of 16 parts (12345 >> 16 is 0): all cloud, so only shots that need no sun.
        CloudTakes y = Tape.planned("sun 20;day 20;wide 2 3 0 19;wide 1 3 0 19;wide 0 2 0 19;");
        eq("a cloudy day", y.week(NONE, 0, 1, 0), 2);
        eq("the fewest", y.week(NONE, 0, 1, 1), 2);
        eq("film", y.week(NONE, 0, 1, 2), 5);
        y.await(18);
        eq("from now on", y.week(NONE, 0, 1, 0), 1);
        eq("the sky stays", y.sky(0, 1), 20);
        byHand();
    }

    /** Two days whose draws are worked out here, step by step. */
    private static void byHand() {
        int seed = 77;
        int had = 0;
        int fewest = 9;
        int sum = 0;
        for (int i = 0; i < 2; i++) {
            StringBuilder b = new StringBuilder("day 40;");
            seed = seed * 1103515245 + 12345;
            int parts = (seed >>> 16) % 32768 % 16;
            for (int p = 0; p < parts; p++) {
                seed = seed * 1103515245 + 12345;
                b.append(p % 2 == 0 ? "cloud " : "sun ").append((seed >>> 16) % 32768 % 30 + 1).append(';');
            }
            CloudTakes one = Tape.planned(b + "wide 1 5 0 39;near 2 9 0 39;wide 0 9 5 39;rule left;");
            had += one.day(0, 0);
            fewest = Math.min(fewest, one.day(0, 0));
            sum += one.day(0, 1);
        }
        CloudTakes x = Tape.planned("day 40;sun 40;wide 1 5 0 39;near 2 9 0 39;wide 0 9 5 39;rule left;");
        eq("shots of two days", x.week(0, 77, 2, 0), had);
        eq("the fewest of two days", x.week(0, 77, 2, 1), fewest);
        eq("film of two days", x.week(0, 77, 2, 2), sum);
    }

    private static void image() {
        promise = "37";
        CloudTakes x = Tape.planned(PLAN);
        x.image();
        x.await(3);
        x.image();
        x.await(3);
        eq("restore()", x.restore(), true);
        counts(x, 5, 3, 13, 1);
    }

    private static void restore() {
        promise = "38";
        CloudTakes x = Tape.planned(PLAN);
        eq("none", x.restore(), false);
        x.await(2);
        x.take(0);
        x.take(1);
        x.sets(0, true);
        x.await(2);
        x.await(99);
        x.see(0, 4, true);
        x.see(0, 999, true);
        x.image();
        Tape.plan(x, "sun 0;");
        x.sets(1, true);
        x.sets(0, false);
        x.clouds(0, 29, false);
        x.move(true);
        x.take(2);
        counts(x, 7, 4);
        x.forget();
        x.see(1, 2, false);
        x.see(1, 999, false);
        x.move(true);
        Tape.feed(x, "cloud 3;");
        for (int i = 0; i < 2; i++) {
            eq("restore()", x.restore(), true);
            counts(x, 5, 11, 6, 0, 7, 0, 8, 7, 9, 1, 10, 0, 11, 2, 13, 5, 14, 1, 15, 20, 16, 0, 17, 1, 18, 1);
            eq("shot(1, 7)", x.shot(1, 7), 1);
            eq("sky(0, 1)", x.sky(0, 1), 5);
            eq("what is seen: 0 was had by 4, which no day can do now", x.which(), 0);
            eq("fault() stays", x.fault(), 4);
            eq("acts are kept", x.undo(), 4);
            eq("acts are kept", x.undo(), 3);
            counts(x, 9, 0, 5, 9);
            eq("acts are kept", x.undo(), 2);
            eq("shot(1, 7)", x.shot(1, 7), 0);
            eq("acts are kept", x.undo(), 1);
            eq("acts are kept", x.undo(), 0);
            counts(x, 5, 0, 8, 0);
            eq("acts are kept", x.undo(), NONE);
        }
        CloudTakes y = Tape.planned(PLAN);
        y.see(3, 13, true);
        y.see(0, 4, true);
        y.image();
        for (int i = 0; i < 2; i++) {
            eq("which()", y.which(), 1);
            y.forget();
            y.see(2, 29, i == 0);
            y.see(1, 4, false);
            y.see(1, 4, true);
            eq("restore()", y.restore(), true);
            counts(y, 14, 2);
        }
    }
}
