import java.util.Arrays;

/** What the document promises of each call, sentence by sentence. */
final class PromiseSentences {
    private static final int NONE = CloudTakes.NONE;
    private static final int LEAST = Integer.MIN_VALUE;
    private static final int MOST = Integer.MAX_VALUE;

    /** Sun in 0 to 4, cloud in 5 to 7, sun in 8 to 17, cloud in 18 to 29. */
    private static final String PLAN = "sun 5;cloud 3;sun 10;day 30;move 4;cold 2;wide 1 4 0 20;near 2 3 0 30;"
            + "inside 0 5 0 30;wide 1 6 0 30 after 0;rule left-length;rule 9-length;";

    private final Reading r;

    PromiseSentences(Reading reading) {
        r = reading;
    }

    void walks() {
        newObject();
        feed();
        plan();
        fault();
        count();
        shot();
        sky();
        why();
        readyAndEdge();
        take();
        awaitAndMove();
        setsAndClouds();
        undo();
        day();
        best();
        mostAndOrder();
        soonestAndInside();
        worthToShorter();
        idleAndRegret();
        holes();
        tries();
        see();
        which();
        week();
        imageAndRestore();
    }

    private static CloudTakes planned() {
        return Tape.planned(PLAN);
    }

    /** All that can be counted; few calls, since an object is used for 512 of them. */
    private static int[] all(CloudTakes x) {
        int[] counted = new int[21];
        for (int i = 0; i <= 18; i++) {
            counted[i] = x.count(i);
        }
        counted[19] = x.fault();
        counted[20] = x.sky(0, 1);
        return counted;
    }

    /** A call that throws NoSuchElementException, and changes nothing. */
    private void noSuch(CloudTakes x, String call, Runnable run) {
        int[] before = all(x);
        r.noSuch(call, run);
        r.eq(call + " changes nothing", Arrays.equals(before, all(x)), true);
    }

    private void illegal(CloudTakes x, String call, Runnable run) {
        int[] before = all(x);
        r.illegal(call, run);
        r.eq(call + " changes nothing", Arrays.equals(before, all(x)), true);
    }

    private interface Asked {
        long of(int what);
    }

    private static int[] besides(int least, int most) {
        return new int[] {LEAST, least - 1, most + 1, most + 256, MOST};
    }

    /** A what, or another argument, of which only some are: all ahead of them and behind them throw. */
    private void only(CloudTakes x, String call, int least, int most, Asked asked) {
        int[] before = all(x);
        for (int what : besides(least, most)) {
            r.noSuch(call + " of " + what, () -> asked.of(what));
        }
        r.eq(call + " changes nothing", Arrays.equals(before, all(x)), true);
    }

    private void onlyLegal(CloudTakes x, String call, int least, int most, Asked asked) {
        int[] before = all(x);
        for (int what : besides(least, most)) {
            r.illegal(call + " of " + what, () -> asked.of(what));
        }
        asked.of(least);
        asked.of(most);
        r.eq(call + " changes nothing", Arrays.equals(before, all(x)), true);
    }

    private void newObject() {
        r.says("The constants: `NONE = -1`: There is none.");
        r.eq("NONE", CloudTakes.NONE, -1);
        r.says("No SHOTS, all cloud.");
        CloudTakes x = new CloudTakes();
        int[] due = {0, 240, 50, 1, 0, 0, 0, 0, 0, 0, 0, 0, 0, 0, 0, 0, 0, 0, 0};
        for (int what = 0; what < due.length; what++) {
            r.counts(x, what, due[what]);
        }
        r.eq("sky(0, 0)", x.sky(0, 0), 0);
        r.eq("sky(0, 1)", x.sky(0, 1), 240);
        r.eq("fault()", x.fault(), NONE);
        r.eq("undo()", x.undo(), NONE);
        r.eq("restore()", x.restore(), false);
        r.eq("ready(0)", x.ready(0), 0);
        r.eq("most(0)", x.most(0), 0);
        r.eq("best()", x.best(), NONE);
        r.eq("which()", x.which(), 16);
        r.eq("day(NONE, 0)", x.day(NONE, 0), 0);
        noSuch(x, "take(0)", () -> x.take(0));
        noSuch(x, "day(0, 0)", () -> x.day(0, 0));
    }

    private void feed() {
        r.says("Twenty bytes come behind the tape, of each number the highest first: how many it has;");
        CloudTakes x = new CloudTakes();
        r.eq("'sun 7;cloud 9;'", x.feed(0x73756e20, 0x373b636c, 0x6f756420, 0x393b2020, 0x20202020), 20);
        r.eq("'sun 2;' behind it", x.feed(0x20202020, 0x20207375, 0x6e20323b, 0x20202020, 0x20202020), 40);
        r.counts(x, 15, 40);
        r.eq("both are told", x.plan(40), 0);
        r.sky(x, "sssssss" + "ccccccccc" + "ss" + "c");
        r.eq("a byte above 127, as the highest", x.feed(0xff000000, 0, 0, 0, 0), 20);
        r.eq("is no token", x.plan(1), 1);
        r.eq("the last byte", x.feed(0x20202020, 0x20202020, 0x20202020, 0x20202020, 0x20202078), 20);
        r.eq("19 are blanks", x.plan(20), 1);
        r.eq("the last byte", x.fault(), 19);
        r.says("NONE, and none come, if it would have more than 700.");
        CloudTakes y = new CloudTakes();
        for (int i = 1; i <= 35; i++) {
            r.eq("feed", y.feed(0x20202020, 0x20202020, 0x20202020, 0x20202020, 0x20202020), 20 * i);
        }
        int[] before = all(y);
        r.eq("the 36th", y.feed(0x78787878, 0x78787878, 0x78787878, 0x78787878, 0x78787878), NONE);
        r.eq("none come", Arrays.equals(before, all(y)), true);
        r.eq("all 700 are blanks", y.plan(700), 0);
        r.eq("it is empty then", y.feed(0, 0, 0, 0, 0), 20);
    }

    private void plan() {
        r.says("The tape's first n bytes (it is empty then) are a PLAN, all anew: 0,");
        CloudTakes x = busy();
        Tape.feed(x, "day 20;sun 3;cold 5;moves");
        r.eq("the first 20 of 40", x.plan(20), 0);
        r.counts(x, 0, 0, 1, 20, 2, 50, 3, 5, 4, 0, 5, 0, 6, 0, 7, 0, 8, 0, 9, 0, 10, 0, 11, 0, 12, 0, 15, 0);
        r.sky(x, "sss" + "c".repeat(17));
        CloudTakes again = busy();
        r.eq("the same once more", Tape.plan(again, PLAN), 0);
        r.eq("not spoilt yet", again.shot(3, 7), 0);
        r.eq("not had yet", again.shot(0, 6), 0);
        r.sky(again, "sssssccc" + "s".repeat(10) + "c".repeat(12));
        CloudTakes none = busy();
        r.eq("no bytes at all", none.plan(0), 0);
        r.counts(none, 0, 0, 1, 240, 2, 50, 3, 1, 4, 0, 5, 0);
        r.eq("all cloud", none.sky(0, 1), 240);
        CloudTakes many = new CloudTakes();
        for (int i = 0; i < 10; i++) {
            r.eq("a long rule anew", Tape.plan(many, "wide 0 1 0 9;rule " + "0+".repeat(330) + i % 2 + ";"), 0);
            r.eq("its last number counts", many.day(0, 0), i % 2);
        }
        r.says("or the FAULT (all stays, but STATUS).");
        CloudTakes y = busy();
        int[] before = all(y);
        int byRules = y.day(0, 4) * 100 + y.day(1, 1);
        r.eq("a fault at the end", Tape.plan(y, "day 10;sun 9;move 7;cold 8;wide 0 9 9 9;rule 1;x"), 1);
        before[16]++;
        before[19] = 47;
        r.eq("all stays", Arrays.equals(before, all(y)), true);
        r.eq("shots stay", y.shot(3, 7), 1);
        r.eq("rules stay", y.day(0, 4) * 100 + y.day(1, 1), byRules);
        r.eq("acts stay", y.undo(), y.count(13));
        r.eq("the image stays", y.restore(), true);
        r.counts(y, 5, 4);
        r.says("ACTS, what is SEEN, rows that are kept, the image are gone.");
        CloudTakes z = busy();
        z.order(0);
        r.eq("another plan", Tape.plan(z, "wide 0 1 0 9;rule 1;"), 0);
        r.counts(z, 13, 0, 14, 0);
        r.eq("no act is kept", z.undo(), NONE);
        r.eq("nothing is seen", z.which(), 17);
        r.eq("no image", z.restore(), false);
        r.eq("another order", z.order(0), 0);
        r.noSuch("which is not so long", () -> z.order(1));
        r.says("IllegalArgumentException: the tape has not so many, n below 0 (nothing changes).");
        CloudTakes w = busy();
        illegal(w, "plan(1) of none", () -> w.plan(1));
        Tape.feed(w, "sun 5;");
        illegal(w, "plan(21) of 20", () -> w.plan(21));
        illegal(w, "plan(-1)", () -> w.plan(-1));
        illegal(w, "plan(MIN_VALUE)", () -> w.plan(LEAST));
        illegal(w, "plan(MAX_VALUE)", () -> w.plan(MOST));
        r.counts(w, 15, 20);
        r.eq("plan(20) of 20", w.plan(20), 0);
    }

    /** The plan with 0 had in minute 4, an image of this, 3 spoilt behind it, and more acts. */
    private static CloudTakes busy() {
        CloudTakes x = planned();
        x.take(0);
        x.image();
        x.take(3);
        x.sets(0, true);
        x.sets(1, true);
        x.clouds(25, 29, true);
        x.await(2);
        x.see(0, 9, true);
        x.see(3, 9, false);
        x.move(true);
        x.await(3);
        return x;
    }

    private void fault() {
        r.says("The place of the latest plan()'s FAULT; NONE without.");
        CloudTakes x = new CloudTakes();
        r.eq("no plan yet", x.fault(), NONE);
        Tape.plan(x, "x");
        r.eq("the first byte", x.fault(), 0);
        Tape.plan(x, "sun 5; cloud 0;");
        r.eq("the latest", x.fault(), 13);
        r.illegal("plan(1)", () -> x.plan(1));
        r.eq("what throws is no plan", x.fault(), 13);
        x.image();
        x.restore();
        r.eq("fault()", x.fault(), 13);
        Tape.plan(x, "sun 5;");
        r.eq("without", x.fault(), NONE);
        Tape.plan(x, "sun 5");
        r.eq("the text's length", x.fault(), 5);
        x.plan(0);
        r.eq("without", x.fault(), NONE);
    }

    private void count() {
        r.says("0 SHOTS, 1 MINUTES of the DAY, 2 MOVE, 3 COLD (as told), 4 RULES, 5 NOW, 6 whether all are inside (1),"
                + " 7 what is HAD (bits), 8 FILM, 9 whether LAMPS are on (1), 10 SILK (1), 11 waited, 12 what actors are"
                + " by COLD, 13 ACTS that are kept, 14 SEEN, 15 bytes of the tape, 16 to 18 STATUS 0 to 2.");
        CloudTakes x = busy();
        Tape.plan(x, "sun");
        x.move(true);
        x.await(61);
        x.see(0, 480, true);
        x.see(0, 481, true);
        x.see(0, 482, true);
        Tape.feed(x, "sun 5;");
        int[] due = {4, 30, 4, 2, 2, 15, 1, 1, 6, 1, 1, 3, 6, 8, 2, 20, 1, 2, 3};
        for (int what = 0; what < due.length; what++) {
            r.counts(x, what, due[what]);
        }
        r.says("NoSuchElementException: another what.");
        only(x, "count", 0, 18, what -> x.count(what));
    }

    private void shot() {
        r.says("Of a SHOT: 0 KIND, 1 LIGHT, 2 LENGTH, 3 FROM, 4 TO, 5 AFTER (NONE), 6 whether HAD (1), 7 how often spoilt.");
        CloudTakes x = Tape.planned("sun 1;cloud 1;sun 1;wide 0 1 0 9;near 1 30 2 480;inside 2 7 11 13 after 1;"
                + "wide 0 2 0 9;");
        int[][] due = {{0, 0, 1, 0, 9, NONE, 0, 0}, {1, 1, 30, 2, 480, NONE, 0, 0}, {2, 2, 7, 11, 13, 1, 0, 0},
            {0, 0, 2, 0, 9, NONE, 1, 2}};
        r.eq("not had yet", x.shot(3, 6), 0);
        r.eq("spoilt", x.take(3), 0);
        r.eq("spoilt", x.take(3), 0);
        r.eq("had", x.take(3), 1);
        for (int shot = 0; shot < 4; shot++) {
            for (int what = 0; what < 8; what++) {
                r.eq("shot(" + shot + ", " + what + ")", x.shot(shot, what), due[shot][what]);
            }
        }
        r.says("NoSuchElementException: no such SHOT (as everywhere), what.");
        only(x, "shot(.., 0)", 0, 3, shot -> x.shot(shot, 0));
        only(x, "shot(0, ..)", 0, 7, what -> x.shot(0, what));
        only(x, "why(.., 0)", 0, 3, shot -> x.why(shot, 0));
        only(x, "take(..)", 0, 3, shot -> x.take(shot));
        only(x, "chances(.., 0)", 0, 3, shot -> x.chances(shot, 0));
        only(x, "without(..)", 0, 3, shot -> x.without(shot));
        only(x, "see(.., 0, true)", 0, 3, shot -> x.see(shot, 0, true));
        CloudTakes eight = Tape.planned("wide 0 1 0 9;".repeat(8));
        only(eight, "shot(.., 0) of 8", 0, 7, shot -> eight.shot(shot, 0));
    }

    private void sky() {
        r.says("The sky in a MINUTE: 1 sun, 0 cloud (what 0); for how many MINUTES of the DAY it stays so, that one too (1).");
        CloudTakes x = planned();
        r.sky(x, "sssssccc" + "s".repeat(10) + "c".repeat(12));
        int[] ends = {0, 5, 5, 3, 8, 10, 18, 12};
        for (int i = 0; i < ends.length; i += 2) {
            r.eq("sky(" + ends[i] + ", 1)", x.sky(ends[i], 1), ends[i + 1]);
        }
        r.eq("its last minute", x.sky(4, 1), 1);
        r.eq("the day's last minute", x.sky(29, 1), 1);
        r.eq("cut by the day's end", Tape.planned("day 10;sun 480;").sky(3, 1), 7);
        x.await(30);
        r.eq("minutes that are over", x.sky(0, 1), 5);
        r.says("NoSuchElementException: no such MINUTE of the DAY, what.");
        only(x, "sky(.., 0)", 0, 29, minute -> x.sky(minute, 0));
        only(x, "sky(.., 1)", 0, 29, minute -> x.sky(minute, 1));
        only(x, "sky(0, ..)", 0, 1, what -> x.sky(0, what));
    }

    private void why() {
        r.says("Why a SHOT CAN'T BE BEGUN in a MINUTE (as all is now): 0 to 6.");
        CloudTakes x = planned();
        r.eq("can", x.why(0, 8), 0);
        r.eq("after", x.why(3, 8), 2);
        r.eq("place", x.why(2, 8), 3);
        r.eq("window", x.why(0, 21), 4);
        r.eq("light", x.why(1, 8), 5);
        r.eq("end", x.why(1, 28), 6);
        x.take(0);
        r.eq("had, as all is now", x.why(0, 0), 1);
        r.eq("after, as all is now, though 0 is over", x.why(3, 0), 0);
        x.sets(1, true);
        r.eq("silk, as all is now", x.why(1, 8), 0);
        x.await(26);
        r.eq("when the day is over", x.why(3, 8), 0);
        r.says("NoSuchElementException: also no such MINUTE of the DAY.");
        only(x, "why(0, ..)", 0, 29, minute -> x.why(0, minute));
        noSuch(x, "why(4, 0)", () -> x.why(4, 0));
    }

    private void readyAndEdge() {
        r.says("SHOTS that can be begun in a MINUTE (as all is now), as bits.");
        CloudTakes x = planned();
        r.eq("ready(0)", x.ready(0), 1);
        r.eq("ready(20)", x.ready(20), 2);
        r.eq("ready(28)", x.ready(28), 0);
        x.take(0);
        r.eq("ready(0), as all is now", x.ready(0), 8);
        CloudTakes all = Tape.planned("wide 0 1 0 9;".repeat(8));
        r.eq("all 8", all.ready(9), 255);
        r.eq("none", all.ready(10), 0);
        r.says("NoSuchElementException: no such MINUTE of the DAY.");
        only(x, "ready", 0, 29, minute -> x.ready(minute));
        r.says("The first MINUTE behind one in which the sky is otherwise than in the one ahead; NONE: none of the DAY.");
        r.eq("edge(0)", x.edge(0), 5);
        r.eq("edge(4)", x.edge(4), 5);
        r.eq("behind it, not it", x.edge(5), 8);
        r.eq("edge(17)", x.edge(17), 18);
        r.eq("none", x.edge(18), NONE);
        r.eq("the day's last minute", x.edge(29), NONE);
        x.clouds(29, 29, true);
        r.eq("the day's last minute is one", x.edge(28), 29);
        r.eq("none behind it", x.edge(29), NONE);
        CloudTakes cut = Tape.planned("day 10;sun 10;cloud 5;sun 5;");
        r.eq("an edge just behind the day", cut.edge(0), NONE);
        CloudTakes like = Tape.planned("day 10;sun 3;sun 3;");
        r.eq("parts of one kind have no edge", like.edge(0), 6);
        CloudTakes most = Tape.planned("day 480;cloud 479;sun 1;");
        r.eq("the longest day's last minute", most.edge(0), 479);
        r.eq("the longest day's last minute", most.edge(479), NONE);
        r.says("NoSuchElementException: no such MINUTE of the DAY.");
        only(x, "edge", 0, 29, minute -> x.edge(minute));
    }

    private void take() {
        r.says("TAKEN: 1 it is HAD, 0 SPOILT.");
        CloudTakes x = planned();
        r.eq("had", x.take(0), 1);
        r.counts(x, 5, 4, 7, 1, 8, 4, 13, 1, 17, 0);
        r.eq("spoilt", x.take(3), 0);
        r.counts(x, 5, 6, 7, 1, 8, 6, 13, 2, 17, 0);
        r.says("NONE (STATUS 1): it can't be begun, the DAY is over.");
        r.eq("had", x.take(0), NONE);
        r.eq("place", x.take(2), NONE);
        r.eq("light", x.take(3), NONE);
        r.counts(x, 5, 6, 7, 1, 8, 6, 13, 2, 17, 3);
        x.await(22);
        r.eq("end", x.take(1), NONE);
        x.await(2);
        r.eq("the day is over", x.take(1), NONE);
        r.counts(x, 5, 30, 13, 4, 17, 5);
        CloudTakes y = planned();
        r.eq("after", y.take(3), NONE);
        r.counts(y, 5, 0, 13, 0, 17, 1);
        y.await(21);
        r.eq("window", y.take(0), NONE);
        r.counts(y, 5, 21, 13, 1, 17, 2);
        CloudTakes over = Tape.planned("day 10;sun 10;wide 0 1 0 480;inside 0 1 0 480;move 0;");
        over.await(10);
        r.eq("the day is over", over.take(0), NONE);
        over.move(true);
        r.eq("the day is over", over.take(1), NONE);
        r.counts(over, 7, 0, 8, 0, 17, 2);
        CloudTakes longest = Tape.planned("day 480;wide 0 1 0 480;wide 1 1 0 480;");
        for (int i = 0; i < 8; i++) {
            longest.await(60);
        }
        r.eq("the longest day is over", longest.take(0), NONE);
        r.eq("the longest day is over", longest.take(1), NONE);
    }

    private void awaitAndMove() {
        r.says("One WAITS: NOW.");
        CloudTakes x = planned();
        r.eq("await(1)", x.await(1), 1);
        r.eq("await(6)", x.await(6), 7);
        r.counts(x, 5, 7, 11, 7, 12, 14, 13, 2);
        r.says("NONE (STATUS 1): not 1 to 60, it would be behind the DAY.");
        r.eq("await(0)", x.await(0), NONE);
        r.eq("await(-1)", x.await(-1), NONE);
        r.eq("await(24)", x.await(24), NONE);
        r.eq("await(MAX_VALUE)", x.await(MOST), NONE);
        r.counts(x, 5, 7, 11, 7, 13, 2, 17, 4);
        r.eq("await(23)", x.await(23), 30);
        r.eq("the day is over", x.await(1), NONE);
        r.counts(x, 5, 30, 13, 3, 17, 5);
        CloudTakes y = new CloudTakes();
        r.eq("await(61)", y.await(61), NONE);
        r.eq("await(60)", y.await(60), 60);
        r.says("All MOVE: NOW.");
        CloudTakes z = planned();
        r.eq("inside", z.move(true), 4);
        r.counts(z, 5, 4, 6, 1, 13, 1);
        r.eq("out", z.move(false), 8);
        r.counts(z, 5, 8, 6, 0, 13, 2);
        r.says("NONE (STATUS 1): they are there already, it would be behind the DAY.");
        r.eq("out already", z.move(false), NONE);
        r.eq("inside", z.move(true), 12);
        r.eq("inside already", z.move(true), NONE);
        z.await(14);
        r.eq("to the day's end", z.move(false), 30);
        z.undo();
        z.await(1);
        r.eq("a minute beyond", z.move(false), NONE);
        r.counts(z, 5, 27, 6, 1, 17, 3);
        CloudTakes free = Tape.planned("day 10;move 0;");
        free.await(10);
        r.eq("in no time when the day is over", free.move(true), 10);
        r.eq("there already", free.move(true), NONE);
    }

    private void setsAndClouds() {
        r.says("LAMPS (what 0), SILK (1): as they were.");
        CloudTakes x = planned();
        r.eq("lamps were off", x.sets(0, true), false);
        r.counts(x, 9, 1, 10, 0);
        r.eq("silk was off", x.sets(1, true), false);
        r.counts(x, 9, 1, 10, 1);
        r.eq("lamps were on", x.sets(0, true), true);
        r.eq("lamps were on", x.sets(0, false), true);
        r.counts(x, 9, 0, 10, 1);
        r.eq("silk was on", x.sets(1, false), true);
        r.eq("silk was off", x.sets(1, false), false);
        r.counts(x, 9, 0, 10, 0, 13, 6, 5, 0);
        r.says("NoSuchElementException: another what.");
        only(x, "sets(.., true)", 0, 1, what -> x.sets(what, true) ? 1 : 0);
        r.says("The sky from a MINUTE to another one: in how many of these it was otherwise.");
        CloudTakes y = planned();
        r.eq("5 to 7 were cloud", y.clouds(4, 8, true), 3);
        r.eq("0 to 17", y.sky(0, 1), 18);
        r.eq("none", y.clouds(4, 8, true), 0);
        r.eq("one minute", y.clouds(4, 4, false), 1);
        r.eq("0 to 3", y.sky(0, 1), 4);
        r.eq("5 to 17", y.sky(5, 1), 13);
        r.eq("the whole day", y.clouds(0, 29, true), 13);
        r.counts(y, 13, 4);
        r.says("NONE (STATUS 1): no such MINUTES of the DAY, to below from.");
        int[][] refused = {{-1, 5}, {-1, -1}, {0, 30}, {30, 30}, {5, 4}, {29, 0}, {LEAST, MOST}, {0, MOST}, {MOST, 0}};
        for (int i = 0; i < refused.length; i++) {
            int[] f = refused[i];
            r.eq("clouds(" + f[0] + ", " + f[1] + ", false)", y.clouds(f[0], f[1], false), NONE);
            r.counts(y, 13, 4, 17, i + 1);
        }
        r.eq("the sky stays", y.sky(0, 1), 30);
        CloudTakes most = Tape.planned("day 480;");
        r.eq("the whole longest day", most.clouds(0, 479, true), 480);
        r.eq("behind it", most.clouds(479, 480, false), NONE);
    }

    private void undo() {
        r.says("The last ACT is UNDONE: how many are left.");
        CloudTakes x = busy();
        r.counts(x, 13, 8);
        x.await(99);
        for (int i = 7; i >= 0; i--) {
            r.eq("undo()", x.undo(), i);
            r.counts(x, 13, i);
        }
        r.counts(x, 5, 0, 6, 0, 7, 0, 8, 0, 9, 0, 10, 0, 11, 0);
        r.eq("the sky too", x.sky(29, 0), 0);
        r.eq("not what is seen", x.count(14), 2);
        r.eq("nor what was refused", x.count(17), 1);
        r.says("NONE: there is none.");
        r.eq("undo()", x.undo(), NONE);
        r.counts(x, 13, 0, 17, 1, 5, 0);
        x.await(1);
        r.eq("one again", x.undo(), 0);
        r.eq("none again", x.undo(), NONE);
    }

    private void day() {
        r.says("A DAY BY A RULE (NONE: by none): 0 how many SHOTS are HAD in it, 1 FILM in it, 2 how many are spoilt,"
                + " 3 the MINUTE behind the last that was HAD (NONE: none), 4 which are HAD in it (bits).");
        CloudTakes x = planned();
        int[][] due = {{4, 23, 2, 30, 15}, {3, 13, 0, 21, 11}};
        for (int rule = NONE; rule < 1; rule++) {
            for (int what = 0; what < 5; what++) {
                r.eq("day(" + rule + ", " + what + ")", x.day(rule, what), due[rule + 1][what]);
            }
        }
        x.take(0);
        r.eq("0 is had already", x.day(0, 0), 2);
        r.eq("its film is not of this day", x.day(0, 1), 9);
        r.eq("0 is had already", x.day(0, 4), 10);
        r.counts(x, 5, 4, 7, 1, 8, 4, 11, 0, 13, 1);
        CloudTakes none = Tape.planned("day 10;sun 3;wide 1 4 0 9;");
        r.eq("none is had", none.day(NONE, 0), 0);
        r.eq("0 to 3 and no more", none.day(NONE, 1), 4);
        r.eq("spoilt", none.day(NONE, 2), 1);
        r.eq("none is had", none.day(NONE, 3), NONE);
        r.eq("none is had", none.day(NONE, 4), 0);
        none.await(10);
        r.eq("the day is over", none.day(NONE, 1), 0);
        r.eq("the day is over", none.day(NONE, 3), NONE);
        CloudTakes last = Tape.planned("day 10;sun 4;wide 1 2 0 9;wide 0 3 0 9;");
        r.eq("behind the last that was had: 0 in 0, 1 spoilt in 2 to 4, had in 5 to 7", last.day(NONE, 3), 8);
        CloudTakes eight = Tape.planned("day 480;" + "wide 0 30 0 480;".repeat(8) + "rule 1;");
        r.eq("all 8", eight.day(0, 4), 255);
        r.eq("all 8", eight.day(0, 1), 240);
        r.says("NoSuchElementException: no such rule, another what.");
        only(x, "day(.., 0)", NONE, 1, rule -> x.day(rule, 0));
        only(x, "day(0, ..)", 0, 4, what -> x.day(0, what));
        CloudTakes four = Tape.planned("rule 1;".repeat(4));
        only(four, "day(.., 0) of 4 rules", NONE, 3, rule -> four.day(rule, 0));
        CloudTakes empty = new CloudTakes();
        only(empty, "day(.., 0) of no rules", NONE, NONE, rule -> empty.day(rule, 0));
    }

    private void best() {
        r.says("THE BEST rule: that by whose day most SHOTS are HAD (of like ones by least FILM, then none ahead of RULES"
                + " in their order); NONE: by none.");
        String two = "day 10;wide 0 6 0 9;wide 0 3 0 3;";
        r.eq("most shots: both by rule 1", Tape.planned(two + "rule 0;rule 9-length;rule 9-length;").best(), 1);
        r.eq("by none as many, and ahead", Tape.planned("day 10;wide 0 6 0 9;rule 1;").best(), NONE);
        String edge = "day 10;sun 2;wide 0 3 0 9;";
        r.eq("less film by rule 1, the first of like ones", Tape.planned(edge + "rule 1;rule left/3;rule left/3;").best(), 1);
        r.eq("none had, but no film by rule 0", Tape.planned("day 10;sun 2;wide 1 3 0 9;rule 0;rule 1;").best(), 0);
        r.eq("most shots ahead of least film", Tape.planned("day 10;wide 0 3 0 9;rule 0;rule 1;").best(), NONE);
        r.eq("no shots", Tape.planned("rule 1;rule 2;").best(), NONE);
        r.eq("no rules", Tape.planned("wide 0 1 0 9;").best(), NONE);
        r.eq("no rules, all spoilt", Tape.planned("day 10;sun 1;wide 1 2 0 0;").best(), NONE);
        r.eq("all spoilt by all", Tape.planned("day 10;sun 1;wide 1 2 0 0;rule 1;rule 2;").best(), NONE);
        r.eq("the fourth", Tape.planned(two + "rule 0;rule 0;rule 0;rule 9-length;").best(), 3);
        CloudTakes x = Tape.planned(two + "rule 9-length;");
        r.eq("now rule 0", x.best(), 0);
        x.take(1);
        r.eq("from now on both are like", x.best(), NONE);
    }

    private void mostAndOrder() {
        r.says("THE MOST: how many (what 0), by when it can be ended (1; NOW of none), which as bits (2).");
        CloudTakes x = planned();
        int[] due = {4, 23, 15};
        for (int what = 0; what < 3; what++) {
            r.eq("most(" + what + ")", x.most(what), due[what]);
        }
        CloudTakes none = Tape.planned("wide 0 1 0 3;");
        none.await(7);
        r.eq("none", none.most(0), 0);
        r.eq("NOW of none", none.most(1), 7);
        r.eq("none", none.most(2), 0);
        CloudTakes over = Tape.planned("day 480;wide 0 1 0 480;");
        for (int i = 0; i < 8; i++) {
            over.await(60);
        }
        r.eq("the longest day is over", over.most(0), 0);
        r.eq("NOW of none", over.most(1), 480);
        r.says("NoSuchElementException: another what.");
        only(x, "most", 0, 2, what -> x.most(what));
        r.says("The i-th SHOT of the order of THE MOST.");
        int[] row = {0, 1, 3, 2};
        for (int i = 0; i < 4; i++) {
            r.eq("order(" + i + ")", x.order(i), row[i]);
        }
        r.eq("most(0) in between", x.without(0), 2);
        r.eq("order(3) alone", x.order(3), 2);
        r.says("NoSuchElementException: there is none.");
        only(x, "order", 0, 3, i -> x.order(i));
        only(none, "order of none", 0, -1, i -> none.order(i));
    }

    private void soonestAndInside() {
        r.says("A SET: by when; NONE: none.");
        CloudTakes x = planned();
        r.eq("soonest(9)", x.soonest(9), 14);
        r.eq("soonest(15)", x.soonest(15), 23);
        r.eq("soonest(0)", x.soonest(0), 0);
        r.eq("3 without 0", x.soonest(8), NONE);
        x.take(0);
        r.eq("0 is had", x.soonest(8), 14);
        x.await(9);
        r.eq("3 is too late", x.soonest(8), NONE);
        r.eq("soonest(0)", x.soonest(0), 13);
        r.says("IllegalArgumentException: bits of SHOTS that there aren't, that are HAD.");
        for (int set : new int[] {1, 3, 15, 16, 32, 256, 1 << 30, LEAST, -1, MOST, ~1}) {
            illegal(x, "soonest(" + set + ")", () -> x.soonest(set));
        }
        r.eq("all that aren't had", x.soonest(14), NONE);
        CloudTakes none = new CloudTakes();
        illegal(none, "soonest(1) of no shots", () -> none.soonest(1));
        CloudTakes all = Tape.planned("wide 0 1 0 99;".repeat(8));
        r.eq("all 8", all.soonest(255), 8);
        illegal(all, "soonest(256)", () -> all.soonest(256));
        r.says("GO INSIDE; NONE: none, or all are inside.");
        CloudTakes y = planned();
        r.eq("inside()", y.inside(), 21);
        y.await(22);
        r.eq("too late", y.inside(), NONE);
        y.undo();
        y.move(true);
        r.eq("all are inside", y.inside(), NONE);
        y.take(2);
        y.move(false);
        r.eq("2 is had", y.inside(), NONE);
        r.eq("no inside shots", Tape.planned("wide 0 1 0 9;").inside(), NONE);
        r.eq("no shots", new CloudTakes().inside(), NONE);
    }

    private void worthToShorter() {
        CloudTakes x = planned();
        r.says("WORTH of LAMPS (what 0), SILK (1).");
        r.eq("worth(0)", x.worth(0), -1);
        r.eq("worth(1)", x.worth(1), 0);
        x.clouds(0, 29, true);
        r.eq("silk in sun", x.worth(1), 1);
        r.eq("lamps in sun", x.worth(0), 0);
        r.counts(x, 9, 0, 10, 0, 13, 1);
        r.says("NoSuchElementException: another what.");
        only(x, "worth", 0, 1, what -> x.worth(what));
        r.says("CHANCES: how many (what 0), the first (1; NONE: none).");
        CloudTakes y = planned();
        int[] due = {9, 0, 11, 5, 26, 0, 5, 8};
        for (int i = 0; i < 8; i++) {
            r.eq("chances(" + i / 2 + ", " + i % 2 + ")", y.chances(i / 2, i % 2), due[i]);
        }
        y.await(15);
        r.eq("from 15 on none", y.chances(0, 0), 0);
        r.eq("none", y.chances(0, 1), NONE);
        y.await(15);
        r.eq("the day is over", y.chances(2, 0), 0);
        r.eq("the day is over", y.chances(2, 1), NONE);
        r.says("NoSuchElementException: also another what.");
        only(y, "chances(0, ..)", 0, 1, what -> y.chances(0, what));
        only(y, "chances(.., 0)", 0, 3, shot -> y.chances(shot, 0));
        r.says("WITHOUT a SHOT.");
        CloudTakes z = planned();
        int[] without = {2, 1, 1, 1};
        for (int shot = 0; shot < 4; shot++) {
            r.eq("without(" + shot + ")", z.without(shot), without[shot]);
        }
        only(z, "without", 0, 3, shot -> z.without(shot));
        r.says("A SHORTER day.");
        r.eq("shorter(7)", z.shorter(7), 4);
        r.eq("shorter(8)", z.shorter(8), 3);
        r.eq("shorter(30)", z.shorter(30), 0);
        r.says("IllegalArgumentException: not 0 to 480.");
        onlyLegal(z, "shorter", 0, 480, minutes -> z.shorter(minutes));
    }

    private void idleAndRegret() {
        r.says("IDLE: MINUTES (what 0), how often (1).");
        CloudTakes x = planned();
        int[] due = {3, 1, 13, 1};
        for (int i = 0; i < 4; i++) {
            r.eq("idle(" + (i / 2 - 1) + ", " + i % 2 + ")", x.idle(i / 2 - 1, i % 2), due[i]);
        }
        CloudTakes none = Tape.planned("day 480;");
        r.eq("all the longest day", none.idle(NONE, 0), 480);
        r.eq("no move", none.idle(NONE, 1), 0);
        r.says("NoSuchElementException: no such rule (NONE: none), another what.");
        only(x, "idle(.., 0)", NONE, 1, rule -> x.idle(rule, 0));
        only(x, "idle(0, ..)", 0, 1, what -> x.idle(0, what));
        r.says("REGRET.");
        r.eq("by none all 4", x.regret(), 0);
        CloudTakes y = Tape.planned("day 10;wide 0 6 0 9;wide 0 3 0 3;rule 0;rule length;");
        r.eq("2 less 1", y.regret(), 1);
        y.take(1);
        r.eq("1 less 1", y.regret(), 0);
    }

    private void holes() {
        r.says("HOLES of so many MINUTES or more.");
        CloudTakes x = planned();
        int[] due = {1, 2, 5, 2, 6, 1, 10, 1, 11, 0, 480, 0};
        for (int i = 0; i < due.length; i += 2) {
            r.eq("holes(" + due[i] + ")", x.holes(due[i]), due[i + 1]);
        }
        x.await(30);
        r.eq("of the whole day, though it is over", x.holes(1), 2);
        r.says("IllegalArgumentException: not 1 to 480.");
        onlyLegal(x, "holes", 1, 480, minutes -> x.holes(minutes));
        r.says("HOLES: the mean: the upper part (what 0; 0 without), the lower one (1; 1 without), the longest (2;"
                + " 0 without), its first MINUTE (3; NONE).");
        int[] with = {15, 2, 10, 8};
        int[] without = {0, 1, 0, NONE};
        CloudTakes none = new CloudTakes();
        for (int what = 0; what < 4; what++) {
            r.eq("hole(" + what + ")", x.hole(what), with[what]);
            r.eq("hole(" + what + ") without", none.hole(what), without[what]);
        }
        none.clouds(239, 239, true);
        int[] one = {1, 1, 1, 239};
        for (int what = 0; what < 4; what++) {
            r.eq("hole(" + what + ") of one", none.hole(what), one[what]);
        }
        r.says("NoSuchElementException: another what.");
        only(x, "hole", 0, 3, what -> x.hole(what));
    }

    private void tries() {
        CloudTakes x = planned();
        r.says("A TRY: the upper part (what 0), the lower one (1).");
        r.eq("lasts(4, 2, 0)", x.lasts(4, 2, 0), 4);
        r.eq("lasts(4, 2, 1)", x.lasts(4, 2, 1), 25);
        r.eq("lasts(0, 1, 0)", x.lasts(0, 1, 0), 0);
        r.eq("lasts(0, 1, 1)", x.lasts(0, 1, 1), 1);
        r.says("NoSuchElementException: another what.");
        only(x, "lasts(4, 2, ..)", 0, 1, what -> x.lasts(4, 2, what));
        r.says("IllegalArgumentException (behind that): tenths, MINUTES.");
        onlyLegal(x, "lasts(.., 2, 0)", 0, 10, tenths -> x.lasts(tenths, 2, 0));
        onlyLegal(x, "lasts(4, .., 1)", 1, 9, minutes -> x.lasts(4, minutes, 1));
        noSuch(x, "behind that", () -> x.lasts(11, 2, 2));
        noSuch(x, "behind that", () -> x.lasts(4, 0, -1));
        r.says("WORTH IT.");
        r.eq("trial(10, 3, 100, 5)", x.trial(10, 3, 100, 5), 85000);
        r.eq("trial(5, 1, 10, 2)", x.trial(5, 1, 10, 2), 30);
        r.eq("trial(0, 2, 9, 3)", x.trial(0, 2, 9, 3), -300);
        r.says("IllegalArgumentException: tenths, MINUTES, so much.");
        CloudTakes y = planned();
        onlyLegal(y, "trial(.., 2, 3, 4)", 0, 10, tenths -> y.trial(tenths, 2, 3, 4));
        onlyLegal(y, "trial(1, .., 3, 4)", 1, 9, minutes -> y.trial(1, minutes, 3, 4));
        onlyLegal(y, "trial(1, 2, .., 4)", 0, 999, worth -> y.trial(1, 2, worth, 4));
        onlyLegal(y, "trial(1, 2, 3, ..)", 0, 99, film -> y.trial(1, 2, 3, film));
    }

    private void see() {
        r.says("SEEN: how much is.");
        CloudTakes x = planned();
        for (int i = 1; i <= 8; i++) {
            r.eq("see", x.see(i % 4, i * 60 - 1, i % 2 == 0), i);
            r.counts(x, 14, i);
        }
        r.counts(x, 13, 0, 17, 0, 18, 0);
        r.says("NONE (STATUS 2): there are 8, no such MINUTE.");
        r.eq("there are 8", x.see(0, 0, true), NONE);
        r.eq("there are 8, and no such minute", x.see(0, 480, true), NONE);
        r.counts(x, 14, 8, 18, 2);
        x.forget();
        int[] wrong = {-1, 480, LEAST, MOST};
        for (int i = 0; i < wrong.length; i++) {
            r.eq("see(0, " + wrong[i] + ", true)", x.see(0, wrong[i], true), NONE);
            r.counts(x, 14, 0, 17, 0, 18, 3 + i);
        }
        r.eq("the first minute", x.see(0, 0, true), 1);
        r.eq("the last minute", x.see(0, 479, true), 2);
        r.says("NoSuchElementException (ahead): no such SHOT.");
        only(x, "see(.., 0, true)", 0, 3, shot -> x.see(shot, 0, true));
        only(x, "ahead of no such minute", 0, 3, shot -> x.see(shot, 480, true));
        for (int i = 3; i <= 8; i++) {
            x.see(0, 0, true);
        }
        only(x, "ahead of there are 8", 0, 3, shot -> x.see(shot, 0, true));
    }

    private void which() {
        r.says("WHICH RULE, as bits.");
        CloudTakes x = planned();
        r.eq("all", x.which(), 19);
        x.see(3, 13, true);
        r.eq("rule 0", x.which(), 1);
        x.see(3, 12, true);
        r.eq("none", x.which(), 0);
        r.eq("no rules", new CloudTakes().which(), 16);
        CloudTakes four = Tape.planned("rule 0;".repeat(4) + "wide 0 1 0 9;");
        r.eq("all four and none", four.which(), 31);
        four.see(0, 9, false);
        r.eq("all four", four.which(), 15);
        r.says("All that is SEEN is forgotten.");
        x.see(0, 480, true);
        x.forget();
        r.counts(x, 14, 0, 18, 1);
        r.eq("all", x.which(), 19);
        r.eq("one anew", x.see(3, 13, true), 1);
        r.eq("rule 0", x.which(), 1);
        CloudTakes none = new CloudTakes();
        none.forget();
        r.counts(none, 14, 0);
    }

    private void week() {
        r.says("A WEEK: SHOTS (what 0), the fewest (1; 0 without DAYS), FILM (2).");
        CloudTakes x = Tape.planned("day 10;sun 10;wide 2 3 0 9;wide 0 2 0 9;rule 1;rule 0;");
        // Seed 0 draws no part: all cloud.
        int[] one = {2, 2, 5};
        for (int what = 0; what < 3; what++) {
            r.eq("a day of cloud", x.week(0, 0, 1, what), one[what]);
            r.eq("a day of cloud", x.week(NONE, 0, 1, what), one[what]);
            r.eq("by rule 1 nothing", x.week(1, 0, 10, what), 0);
            r.eq("without days", x.week(0, 0, 0, what), 0);
        }
        x.await(10);
        r.eq("the day is over", x.week(0, 0, 10, 0), 0);
        r.says("NoSuchElementException: no such rule, another what.");
        only(x, "week(.., 5, 1, 0)", NONE, 1, rule -> x.week(rule, 5, 1, 0));
        only(x, "week(0, 5, 1, ..)", 0, 2, what -> x.week(0, 5, 1, what));
        r.says("IllegalArgumentException (behind that): n.");
        onlyLegal(x, "week(0, 5, .., 0)", 0, 10, n -> x.week(0, 5, n, 0));
        noSuch(x, "behind that", () -> x.week(2, 5, 11, 0));
        noSuch(x, "behind that", () -> x.week(0, 5, -1, 3));
    }

    private void imageAndRestore() {
        r.says("AN IMAGE is kept, in place of another one.");
        CloudTakes x = planned();
        x.take(0);
        x.image();
        r.counts(x, 5, 4, 7, 1, 13, 1);
        x.take(3);
        x.sets(0, true);
        x.image();
        x.await(5);
        r.eq("restore()", x.restore(), true);
        r.counts(x, 5, 6, 9, 1, 13, 3);
        r.says("It is as the IMAGE again: true.");
        x.undo();
        x.undo();
        x.move(true);
        x.clouds(0, 29, false);
        r.eq("restore()", x.restore(), true);
        r.counts(x, 5, 6, 6, 0, 7, 1, 8, 6, 9, 1, 13, 3);
        r.eq("the sky", x.sky(0, 1), 5);
        r.eq("spoilt", x.shot(3, 7), 1);
        r.eq("once more", x.restore(), true);
        r.eq("the lamps", x.undo(), 2);
        r.eq("the take", x.undo(), 1);
        r.counts(x, 5, 4);
        r.says("False: there is none.");
        CloudTakes none = new CloudTakes();
        none.await(3);
        r.eq("restore()", none.restore(), false);
        r.counts(none, 5, 3, 13, 1);
        x.plan(0);
        r.eq("a plan has taken it away", x.restore(), false);
    }
}
