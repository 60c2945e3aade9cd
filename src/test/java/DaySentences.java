/** What the document says of acts, of days by a rule, and of what could be had. */
final class DaySentences {
    private static final int NONE = CloudTakes.NONE;

    private final Reading r;

    DaySentences(Reading reading) {
        r = reading;
    }

    void walks() {
        light();
        begun();
        spoilt();
        acts();
        limits();
        dayByARule();
        most();
        sets();
        worths();
        shorterAndIdle();
        holes();
        tries();
        seen();
        week();
        draws();
        image();
    }

    private void light() {
        r.says("NOW is MINUTE 0 at first, all are out, no SHOT is had, LAMPS and SILK are off.");
        CloudTakes first = Tape.planned("wide 0 1 0 9;near 1 1 0 9;near 2 1 0 9;inside 0 1 0 9;");
        r.counts(first, 5, 0, 6, 0, 7, 0, 9, 0, 10, 0);
        r.eq("out, the sky's light", first.ready(0), 5);
        r.says("The light of a SHOT in a MINUTE: that of the sky;");
        CloudTakes x = Tape.planned("day 20;sun 5;wide 1 2 0 19;wide 2 2 0 19;near 1 2 0 19;near 2 2 0 19;move 0;"
                + "inside 1 2 0 19;inside 2 2 0 19;near 0 9 0 19;");
        r.eq("sun", x.ready(4), 1 + 4 + 64);
        r.eq("cloud", x.ready(5), 2 + 8 + 64);
        r.says("of a near one sun, if LAMPS are on, else cloud, if SILK is on;");
        x.sets(1, true);
        r.eq("silk, in sun", x.ready(4), 1 + 8 + 64);
        r.eq("silk, in cloud", x.ready(5), 2 + 8 + 64);
        x.sets(0, true);
        r.eq("lamps and silk, in sun", x.ready(4), 1 + 4 + 64);
        r.eq("lamps and silk, in cloud", x.ready(5), 2 + 4 + 64);
        x.sets(1, false);
        r.eq("lamps, in cloud", x.ready(5), 2 + 4 + 64);
        r.eq("lamps know no edge", x.chances(6, 0), 12);
        x.sets(0, false);
        r.eq("the sky's edge at 5: 5 to 11", x.chances(6, 0), 7);
        r.says("an inside one needs none.");
        x.move(true);
        r.eq("in sun", x.ready(4), 16 + 32);
        r.eq("in cloud", x.ready(5), 16 + 32);
        x.await(4);
        r.eq("over an edge", x.take(4), 1);
    }

    private void begun() {
        r.says("A SHOT CAN'T BE BEGUN in a MINUTE, 0 it can; else the least of:");
        // In minute 28 shot 1 has them all: had, after, place, window, light and the day's end.
        CloudTakes x = Tape.planned("day 30;move 2;wide 0 1 0 29;wide 1 5 3 9 after 0;inside 0 3 4 20;"
                + "inside 2 4 6 29 after 2;sun 10;");
        r.eq("can", x.why(0, 29), 0);
        r.eq("after ahead of window, light and end", x.why(1, 28), 2);
        r.eq("after ahead of place", x.why(3, 28), 2);
        r.eq("place ahead of window and end", x.why(2, 28), 3);
        r.says("1 it is had already;");
        x.take(0);
        r.eq("had", x.why(0, 29), 1);
        r.says("2 what it is AFTER isn't;");
        r.eq("what it is after is had now", x.why(1, 3), 0);
        r.eq("what it is after isn't had", x.why(3, 6), 2);
        r.says("3 all are inside, and it isn't, or the other way round;");
        r.eq("out, and it is inside", x.why(2, 4), 3);
        x.move(true);
        r.eq("inside, and it is out", x.why(1, 3), 3);
        r.eq("inside, and it is too", x.why(2, 4), 0);
        r.says("4 its window isn't open;");
        r.eq("a minute ahead", x.why(2, 3), 4);
        r.eq("its last minute", x.why(2, 20), 0);
        r.eq("a minute behind", x.why(2, 21), 4);
        r.eq("window ahead of the day's end", x.why(2, 29), 4);
        x.move(false);
        r.eq("window ahead of light", x.why(1, 10), 4);
        r.says("5 its light is another one;");
        CloudTakes y = Tape.planned("day 30;sun 3;wide 1 5 0 29;wide 2 5 0 29;wide 0 5 0 29;");
        r.eq("sun's last minute", y.why(0, 2), 0);
        r.eq("cloud's first minute", y.why(0, 3), 5);
        r.eq("cloud is asked for", y.why(1, 2), 5);
        r.eq("any light", y.why(2, 2), 0);
        r.eq("light ahead of the day's end", y.why(0, 29), 5);
        r.says("6 it would not be ended by the end of the day.");
        r.eq("just ended", y.why(1, 25), 0);
        r.eq("a minute more", y.why(1, 26), 6);
        r.eq("the day's last minute", y.why(2, 29), 6);
    }

    private void spoilt() {
        r.says("Begun, it is SPOILT, if in one of its MINUTES its light isn't that of its first one: there it is broken off;");
        CloudTakes x = Tape.planned("day 30;sun 5;cloud 5;sun 5;wide 0 5 0 29;wide 1 6 0 29;near 0 11 0 29;wide 2 2 0 29;");
        r.eq("begun, though it will be spoilt", x.why(1, 0), 0);
        r.eq("its last minute is another one's", x.take(1), 0);
        r.counts(x, 5, 6, 7, 0);
        r.eq("spoilt once", x.shot(1, 7), 1);
        x.undo();
        x.await(9);
        r.eq("spoilt in its second minute", x.take(3), 0);
        r.counts(x, 5, 11, 7, 0);
        x.undo();
        x.undo();
        r.eq("any, but one and the same", x.take(2), 0);
        r.counts(x, 5, 6);
        r.says("else it is HAD.");
        x.undo();
        r.eq("up to the last minute ahead of an edge", x.take(0), 1);
        r.counts(x, 5, 5, 7, 1);
        x.sets(0, true);
        r.eq("by lamps over all edges", x.take(2), 1);
        r.counts(x, 5, 16, 7, 5);
        CloudTakes y = Tape.planned("day 10;sun 10;wide 1 10 0 0;");
        r.eq("up to the day's end", y.take(0), 1);
        r.counts(y, 5, 10, 7, 1);
    }

    private void acts() {
        r.says("ACTS (at most 40 are kept, the latest ones):");
        CloudTakes x = Tape.planned("day 480;");
        for (int i = 1; i <= 43; i++) {
            x.await(1 + i % 3);
            r.counts(x, 13, Math.min(i, 40));
        }
        int now = x.count(5);
        for (int i = 43; i > 3; i--) {
            r.eq("undo()", x.undo(), i - 4);
            now -= 1 + i % 3;
            r.counts(x, 5, now, 11, now);
        }
        r.eq("the first three are kept no more", x.undo(), NONE);
        r.counts(x, 5, 2 + 3 + 1);
        r.says("a SHOT is TAKEN now, if it can be begun: NOW is LENGTH later then,");
        CloudTakes y = Tape.planned("day 60;sun 10;cloud 20;move 6;wide 1 4 3 60;wide 2 9 0 60;inside 0 30 0 60;");
        r.eq("not yet", y.take(0), NONE);
        y.await(3);
        r.eq("taken", y.take(0), 1);
        r.counts(y, 5, 7, 7, 1);
        r.says("or (SPOILT) the MINUTE in which it was broken off and 1;");
        y.undo();
        y.await(5);
        r.eq("8 and 9 are sun, 10 is not", y.take(0), 0);
        r.counts(y, 5, 11, 7, 0);
        r.says("one WAITS (1 to 60 MINUTES);");
        r.eq("await(0)", y.await(0), NONE);
        r.eq("await(1)", y.await(1), 12);
        CloudTakes z = Tape.planned("day 480;");
        r.eq("await(61)", z.await(61), NONE);
        r.eq("await(60)", z.await(60), 60);
        r.eq("await(-60)", z.await(-60), NONE);
        r.eq("await(MIN_VALUE)", z.await(Integer.MIN_VALUE), NONE);
        r.eq("await(MAX_VALUE)", z.await(Integer.MAX_VALUE), NONE);
        r.counts(z, 5, 60, 13, 1, 17, 4);
        r.says("all MOVE (inside or out: MOVE MINUTES);");
        r.eq("inside", y.move(true), 18);
        r.counts(y, 6, 1);
        r.eq("out", y.move(false), 24);
        r.counts(y, 6, 0);
        r.says("LAMPS, SILK on or off;");
        int kept = y.count(13);
        r.eq("lamps on", y.sets(0, true), false);
        r.eq("silk on", y.sets(1, true), false);
        r.eq("lamps off", y.sets(0, false), true);
        r.counts(y, 9, 0, 10, 1, 13, kept + 3, 5, 24);
        y.undo();
        r.counts(y, 9, 1, 10, 1, 13, kept + 2);
        r.says("the sky becomes sun or cloud from a MINUTE to another one (both too).");
        CloudTakes w = Tape.planned("day 10;sun 2;cloud 2;sun 2;");
        r.eq("from 1 to 4", w.clouds(1, 4, true), 2);
        r.sky(w, "sssssscccc");
        r.eq("cloud in 2 alone", w.clouds(2, 2, false), 1);
        r.sky(w, "sscssscccc");
        r.eq("the day's last minute", w.clouds(9, 9, true), 1);
        r.eq("all", w.clouds(0, 9, false), 6);
        r.sky(w, "cccccccccc");
        r.counts(w, 13, 4);
    }

    private void limits() {
        r.says("What would go beyond the end of the day can't be.");
        CloudTakes x = Tape.planned("day 20;move 5;wide 0 4 0 480;inside 0 4 0 480;");
        x.await(15);
        x.image();
        r.eq("a move up to the end", x.move(true), 20);
        x.restore();
        r.eq("waiting up to the end", x.await(5), 20);
        x.restore();
        x.await(1);
        r.eq("a move beyond", x.move(true), NONE);
        r.eq("waiting beyond", x.await(5), NONE);
        r.eq("a take up to the end", x.take(0), 1);
        x.undo();
        x.await(1);
        r.eq("a take beyond", x.take(0), NONE);
        r.eq("the sky beyond", x.clouds(19, 20, true), NONE);
        r.counts(x, 5, 17, 6, 0, 7, 0);
        r.says("They are UNDONE, the last one first.");
        CloudTakes y = Tape.planned("day 30;sun 3;move 2;wide 1 2 0 29;wide 0 3 0 29;inside 0 1 0 29;");
        y.await(1);
        y.take(0);
        y.clouds(4, 4, true);
        y.take(1);
        y.sets(0, true);
        y.move(true);
        y.take(2);
        r.counts(y, 5, 8, 6, 1, 7, 5, 8, 5, 9, 1, 11, 0, 13, 7);
        r.eq("the second take", y.undo(), 6);
        r.counts(y, 5, 7, 6, 1, 7, 1, 8, 4, 9, 1);
        r.eq("the move", y.undo(), 5);
        r.counts(y, 5, 5, 6, 0, 9, 1);
        r.eq("the lamps", y.undo(), 4);
        r.counts(y, 9, 0);
        r.eq("spoilt", y.shot(1, 7), 1);
        r.eq("the spoilt take", y.undo(), 3);
        r.eq("no more", y.shot(1, 7), 0);
        r.counts(y, 5, 3, 8, 2);
        r.eq("the sky", y.undo(), 2);
        r.eq("cloud again", y.sky(4, 0), 0);
        r.eq("the first take", y.undo(), 1);
        r.counts(y, 5, 1, 7, 0, 8, 0, 11, 1);
        r.eq("waiting", y.undo(), 0);
        r.counts(y, 5, 0, 11, 0);
        r.says("FILM is the MINUTES of all that was taken, or spoilt up to the one in which it was broken off (that too).");
        CloudTakes z = Tape.planned("day 30;sun 3;wide 0 5 0 29;wide 0 2 0 29;");
        z.take(1);
        r.counts(z, 8, 2);
        r.eq("2 and 3, where it is broken off", z.take(0), 0);
        r.counts(z, 8, 4);
        z.await(9);
        r.counts(z, 8, 4);
        z.take(0);
        r.counts(z, 8, 9);
    }

    private void dayByARule() {
        r.says("A DAY BY A RULE, from now on (LAMPS, SILK as they are):");
        CloudTakes now = Tape.planned("day 20;wide 0 3 0 5;near 1 4 0 9;near 2 4 8 19;sun 20;rule 1;");
        r.eq("from 0 on", now.day(0, 4), 3);
        now.sets(1, true);
        r.eq("silk on", now.day(0, 4), 5);
        now.sets(0, true);
        r.eq("lamps on", now.day(0, 4), 3);
        now.await(6);
        r.eq("from 6 on", now.day(0, 4), 2);
        r.counts(now, 5, 6, 7, 0, 8, 0, 9, 1, 10, 1, 11, 6, 13, 3);
        r.says("in each MINUTE of those that can be begun the SHOT is taken of which the rule gives most,");
        String one = "day 10;wide 0 1 0 0;wide 0 2 0 0;wide 0 2 0 0;wide 0 1 0 0;wide 1 3 0 0;";
        CloudTakes x = Tape.planned(one + "rule length;rule 3-length;rule length-1;rule 0-length;");
        r.eq("the longest, but what can't be begun", x.day(0, 4), 2);
        r.eq("the shortest", x.day(1, 4), 1);
        r.eq("a minute later", Tape.planned("day 10;wide 0 1 1 1;rule 1;").day(0, 3), 2);
        r.says("if that is above 0 (of like ones the least);");
        CloudTakes y = Tape.planned(one + "rule 1;rule 0;rule kind;rule 4096*8192*64;");
        r.eq("0 isn't above 0, 1 is", x.day(2, 4), 2);
        r.eq("below 0", x.day(3, 4), 0);
        r.eq("the least", y.day(0, 4), 1);
        r.eq("0", y.day(1, 4), 0);
        r.eq("0 of all", y.day(2, 4), 0);
        r.eq("the least int", y.day(3, 4), 0);
        moves();
        r.says("else one waits a MINUTE.");
        CloudTakes z = Tape.planned("day 10;sun 2;wide 1 2 1 9;rule left-length+1;");
        r.eq("by none 0 is waited, 1 and 2 are spoilt", z.idle(NONE, 0), 8);
        r.eq("by the rule all is waited", z.idle(0, 0), 10);
        r.says("By none: the least SHOT that can be begun.");
        CloudTakes none = Tape.planned("day 10;wide 1 9 0 9;wide 0 3 0 0;wide 0 1 0 0;rule 0;");
        r.eq("0 can't be begun, 1 can", none.day(NONE, 4), 2);
        r.eq("a minute later none", none.day(NONE, 3), 3);
    }

    private void moves() {
        r.says("else, if of SHOTS that aren't had, whose AFTER is had or none, none is to be taken where all are,"
                + " but some where they aren't, and NOW and MOVE are less than the DAY, all move;");
        String there = "inside 0 2 0 29;";
        CloudTakes goes = Tape.planned("day 30;move 3;" + there);
        r.eq("one moves", goes.idle(NONE, 1), 1);
        r.eq("by 5", goes.day(NONE, 3), 5);
        CloudTakes stays = Tape.planned("day 30;move 3;wide 1 2 0 0;" + there);
        r.eq("a shot is to be taken here, be it never", stays.idle(NONE, 1), 0);
        stays.clouds(0, 1, true);
        r.eq("had first, then one moves", stays.day(NONE, 3), 7);
        stays.take(0);
        r.eq("it is had", stays.idle(NONE, 1), 1);
        CloudTakes waits = Tape.planned("day 30;move 3;" + there + "wide 0 1 0 29 after 0;inside 0 1 0 29 after 1;");
        r.eq("what waits for another one isn't to be taken yet", waits.idle(NONE, 1), 3);
        r.eq("inside 3 to 4, out 8, inside 12", waits.day(NONE, 3), 13);
        CloudTakes hindered = Tape.planned("day 30;move 3;wide 1 2 0 29;inside 0 2 0 29 after 0;");
        r.eq("nor there", hindered.idle(NONE, 1), 0);
        CloudTakes idle = Tape.planned("day 30;move 3;" + there);
        idle.move(true);
        idle.take(0);
        r.eq("nothing is left", idle.idle(NONE, 1), 0);
        r.eq("nothing is left", idle.idle(NONE, 0), 25);
        CloudTakes back = Tape.planned("day 30;move 3;wide 0 2 0 29;");
        back.move(true);
        r.eq("out again", back.day(NONE, 3), 8);
        CloudTakes just = Tape.planned("day 10;move 9;inside 0 1 0 9;");
        r.eq("0 and 9 are less than 10", just.day(NONE, 3), 10);
        just.await(1);
        r.eq("1 and 9 are not", just.idle(NONE, 1), 0);
        r.eq("1 and 9 are not", just.idle(NONE, 0), 9);
        CloudTakes free = Tape.planned("day 10;move 0;inside 0 1 0 9;");
        free.await(9);
        r.eq("in no time", free.day(NONE, 3), 10);
        CloudTakes rule = Tape.planned("day 10;move 2;wide 0 2 0 9;inside 0 2 0 9;rule kind;rule 2-kind;");
        r.eq("what the rule doesn't want keeps all here", rule.day(0, 0), 0);
        r.eq("nor does it want the other", rule.day(1, 4), 1);
        r.eq("but they move", rule.idle(1, 1), 1);
    }

    private void most() {
        r.says("THE MOST (by one who knows the sky): of sets of SHOTS that aren't had which can all be had from now on"
                + " (LAMPS and SILK as they are; waiting and moving as it likes) that of most;");
        CloudTakes x = Tape.planned("day 20;sun 4;cloud 2;sun 6;move 2;wide 1 4 0 19;wide 1 6 0 19;inside 0 2 0 19;"
                + "near 2 3 0 19;wide 1 1 15 19;");
        // 0 in 0 to 3, 1 in 6 to 11, 3 in 12 to 14, 2 in 17 to 18 behind a move; 4 never.
        r.eq("how many", x.most(0), 4);
        r.eq("which", x.most(2), 15);
        r.eq("by when", x.most(1), 19);
        x.sets(0, true);
        r.eq("lamps on: 3 never", x.most(2), 7);
        x.sets(0, false);
        x.take(0);
        r.eq("what is had isn't among them", x.most(2), 14);
        x.await(3);
        r.eq("from now on: 1 is too late", x.most(2), 12);
        CloudTakes moved = Tape.planned("day 40;move 10;wide 0 1 0 5;");
        r.eq("out", moved.most(0), 1);
        moved.move(true);
        r.eq("inside, where it was not before", moved.most(0), 0);
        r.eq("inside, where it was not before", moved.soonest(1), NONE);
        eight();
        r.says("of like ones that which can be ended soonest;");
        CloudTakes y = Tape.planned("day 10;wide 0 7 0 9;wide 0 6 0 9;wide 0 6 0 9;");
        r.eq("one of them", y.most(0), 1);
        r.eq("the soonest", y.most(1), 6);
        r.says("then the least as bits: how many, by when, which;");
        r.eq("the least", y.most(2), 2);
        CloudTakes none = Tape.planned("day 10;wide 1 7 0 9;");
        none.await(4);
        r.eq("none", none.most(0), 0);
        r.eq("by now", none.most(1), 4);
        r.eq("none", none.most(2), 0);
        r.says("in which order: the first such row (of SHOTS) by which it ends as soon.");
        order("day 20;wide 0 2 0 19;wide 0 2 0 19;wide 0 2 0 19;", 6, 0, 1, 2);
        order("day 20;wide 0 2 4 19;wide 0 2 0 19;wide 0 2 0 19;", 6, 1, 2, 0);
        // One who takes 0 first has to wait for 1 up to 5 as well.
        order("day 20;wide 0 2 0 19;wide 0 2 5 19;wide 0 2 0 19;", 7, 0, 2, 1);
        order("day 20;wide 0 1 5 5;wide 0 2 0 19 after 0;wide 0 2 0 19;", 8, 2, 0, 1);
        order("day 20;wide 0 3 0 19;wide 0 1 0 9;wide 0 2 0 3 after 1;", 6, 1, 2, 0);
        order("day 20;move 3;wide 0 4 0 19;inside 0 1 0 3;", 11, 1, 0);
        order("day 20;wide 0 3 0 9;wide 0 2 0 0;wide 0 1 0 4;", 6, 1, 2, 0);
        order("day 20;move 3;wide 0 1 0 19;inside 0 1 3 3;inside 0 1 3 10;", 9, 1, 2, 0);
        // There is time to take 0 twice, but once is what a row has.
        order("day 30;wide 0 1 0 29;wide 0 1 20 20;", 21, 0, 1);
        order("day 30;wide 0 1 0 29;wide 0 1 0 29;inside 0 1 20 20;move 3;", 21, 0, 1, 2);
        // 0 ahead of the others ends as soon, though one waits for it.
        order("day 20;sun 3;cloud 1;sun 9;wide 1 4 0 19;wide 1 2 0 19;", 8, 1, 0);
        order("day 20;cloud 3;sun 4;cloud 9;wide 1 4 0 19;wide 2 3 0 19;wide 2 9 0 19;", 16, 1, 0, 2);
        ordersAgain();
    }

    /** What one order has found must not stay for the next one, in which all has to be ended sooner. */
    private void ordersAgain() {
        CloudTakes x = Tape.planned("day 30;sun 10;wide 1 2 0 29;wide 2 2 0 29;");
        r.eq("0 in sun, 1 behind it", x.order(0), 0);
        r.eq("by 12", x.most(1), 12);
        x.clouds(0, 1, false);
        x.clouds(4, 9, false);
        r.eq("by 4", x.most(1), 4);
        r.eq("1 ahead of the sun", x.order(0), 1);
        r.eq("0 in sun", x.order(1), 0);
        x.undo();
        x.undo();
        r.eq("as it was", x.order(0), 0);
        CloudTakes y = Tape.planned("day 30;move 0;inside 0 2 0 29;inside 0 2 0 0;wide 0 2 20 29;");
        r.eq("1 can be begun in 0 alone", y.order(0), 1);
        r.eq("then 0", y.order(1), 0);
        y.await(1);
        r.eq("0 alone", y.order(0), 0);
        r.noSuch("1 no more", () -> y.order(2));
    }

    private void order(String text, int end, int... row) {
        CloudTakes x = Tape.planned(text);
        r.eq("by when: " + text, x.most(1), end);
        for (int i = 0; i < row.length; i++) {
            r.eq("order(" + i + "): " + text, x.order(i), row[i]);
        }
        r.noSuch("order(" + row.length + "): " + text, () -> x.order(row.length));
    }

    /** All 8 shots in the longest day, and all of them inside. */
    private void eight() {
        CloudTakes x = Tape.planned("day 480;move 120;" + "wide 2 30 0 480;".repeat(4) + "inside 1 30 0 480;".repeat(4));
        r.eq("all 8", x.most(0), 8);
        r.eq("all 8", x.most(2), 255);
        r.eq("240 and 120", x.most(1), 360);
        for (int i = 0; i < 8; i++) {
            r.eq("order(" + i + ")", x.order(i), i);
            r.eq("without(" + i + ")", x.without(i), 1);
        }
        r.eq("soonest(255)", x.soonest(255), 360);
        r.eq("inside()", x.inside(), 480 - 120 - 120);
        r.eq("day(NONE, 4)", x.day(NONE, 4), 255);
        CloudTakes late = Tape.planned("day 480;move 0;" + "inside 0 30 240 480;".repeat(8));
        r.eq("all up to the end of the longest day", late.most(1), 480);
        r.eq("inside()", late.inside(), 240);
    }

    private void sets() {
        r.says("A SET: by when all of a told set can be had at the soonest; none.");
        CloudTakes x = Tape.planned("day 20;sun 4;move 3;wide 1 4 0 19;inside 0 2 0 19;wide 2 5 0 19 after 1;"
                + "wide 1 1 4 19;");
        r.eq("{0}", x.soonest(1), 4);
        r.eq("{1}", x.soonest(2), 5);
        r.eq("{0, 1}", x.soonest(3), 9);
        r.eq("{1, 2}", x.soonest(6), 13);
        r.eq("{0, 1, 2}", x.soonest(7), 17);
        r.eq("{2}: 1 isn't had", x.soonest(4), NONE);
        r.eq("{3}: never", x.soonest(8), NONE);
        r.eq("no shot at all", x.soonest(0), 0);
        x.await(3);
        r.eq("{0, 1, 2}: too late", x.soonest(7), NONE);
        r.eq("{1, 2}", x.soonest(6), 16);
        x.await(4);
        r.eq("{1, 2}: just by the day's end", x.soonest(6), 20);
        x.await(1);
        r.eq("{1, 2}: a minute late", x.soonest(6), NONE);
        r.eq("no shot at all", x.soonest(0), 8);
        r.says("GO INSIDE: the latest MINUTE, NOW or later, in which one can begin to move inside, so that all inside"
                + " SHOTS that aren't had can be had behind it");
        CloudTakes y = Tape.planned("day 40;move 5;wide 0 4 0 39;inside 0 6 0 39;inside 0 4 0 25;");
        r.eq("2 in 25 and 1 in 29 to 34; so long as both are done by 40: 2 begun in 25", y.inside(), 20);
        y.await(20);
        r.eq("now", y.inside(), 20);
        y.await(1);
        r.eq("a minute late", y.inside(), NONE);
        y.undo();
        y.move(true);
        y.take(2);
        y.move(false);
        r.eq("2 is had: 1 just by the day's end, but it is 34 now", y.inside(), NONE);
        r.counts(y, 5, 34);
        CloudTakes end = Tape.planned("day 40;move 5;inside 0 6 0 39;inside 0 4 0 39;");
        r.eq("both by the day's end", end.inside(), 25);
        CloudTakes all = Tape.planned("day 40;move 5;inside 0 6 0 39;inside 0 4 41 480;");
        r.eq("not all of them can be had", all.inside(), NONE);
        r.says("(those out that they are AFTER count as had then);");
        CloudTakes after = Tape.planned("day 40;move 5;wide 1 4 0 0;inside 0 6 0 39 after 0;inside 0 4 0 9 after 1;");
        r.eq("0 can't be had, but counts: 2 behind 1, in 9 at the latest: 1 in 3", after.inside(), NONE);
        CloudTakes later = Tape.planned("day 40;move 5;wide 1 4 0 0;inside 0 6 0 39 after 0;inside 0 4 0 19 after 1;");
        r.eq("2 in 19, 1 in 13", later.inside(), 8);
        r.says("none (also without such SHOTS, or if all are inside).");
        r.eq("without such shots", Tape.planned("wide 0 1 0 9;near 0 1 0 9;").inside(), NONE);
        r.eq("a window behind the day", Tape.planned("move 0;inside 0 1 240 480;").inside(), NONE);
        r.eq("its last minute", Tape.planned("move 0;inside 0 1 239 480;").inside(), 239);
        r.eq("its first minute", Tape.planned("move 0;inside 0 1 0 0;").inside(), 0);
        r.eq("two in one minute", Tape.planned("move 0;inside 0 1 1 1;inside 0 1 1 1;").inside(), NONE);
        r.eq("two in two minutes", Tape.planned("move 0;inside 0 1 0 1;inside 0 1 0 1;").inside(), 0);
        later.move(true);
        r.eq("all are inside", later.inside(), NONE);
        CloudTakes had = Tape.planned("move 1;inside 0 1 0 9;");
        had.move(true);
        had.take(0);
        had.move(false);
        r.eq("all are had", had.inside(), NONE);
    }

    private void worths() {
        r.says("WORTH: how many more THE MOST is with LAMPS on (now off or on), with SILK on, than with it off.");
        CloudTakes x = Tape.planned("day 20;near 1 5 0 9;near 1 5 0 9;near 2 5 10 19;");
        r.eq("two by lamps, one without", x.worth(0), 1);
        r.eq("silk: cloud as it is", x.worth(1), 0);
        x.sets(0, true);
        r.eq("now on", x.worth(0), 1);
        r.eq("silk under lamps is nothing", x.worth(1), 0);
        r.counts(x, 9, 1, 10, 0, 13, 1);
        x.clouds(0, 19, true);
        x.sets(0, false);
        r.eq("in sun silk wins one and loses two", x.worth(1), -1);
        r.eq("in sun lamps win none", x.worth(0), 0);
        x.sets(1, true);
        r.eq("silk now on", x.worth(1), -1);
        r.eq("lamps against silk", x.worth(0), 1);
        r.counts(x, 9, 0, 10, 1);
        r.says("CHANCES of a SHOT: MINUTES of the DAY from NOW on in which, begun, it would be had (whether it is had,"
                + " AFTER, where all are isn't asked): how many, the first.");
        CloudTakes y = Tape.planned("day 30;sun 6;cloud 4;sun 5;wide 1 4 2 12;wide 0 5 0 29 after 0;inside 2 9 20 480;"
                + "near 2 1 0 29;");
        r.eq("2, 10 and 11", y.chances(0, 0), 3);
        r.eq("the first", y.chances(0, 1), 2);
        r.eq("any: 0, 1, 10, 15 to 25; after isn't asked", y.chances(1, 0), 14);
        r.eq("inside: 20 and 21", y.chances(2, 0), 2);
        r.eq("where all are isn't asked", y.chances(2, 1), 20);
        r.eq("6 to 9, 15 to 29", y.chances(3, 0), 19);
        y.await(2);
        y.take(0);
        r.eq("had: from 6 on 10 and 11", y.chances(0, 0), 2);
        r.eq("the first from 6 on", y.chances(0, 1), 10);
        y.sets(0, true);
        r.eq("lamps", y.chances(3, 0), 0);
        r.eq("none", y.chances(3, 1), NONE);
        CloudTakes z = Tape.planned("day 480;sun 480;wide 1 1 0 480;");
        r.eq("the longest day", z.chances(0, 0), 480);
        r.says("WITHOUT a SHOT: THE MOST less how many are the most that can be had, it not being among them.");
        CloudTakes w = Tape.planned("day 10;wide 0 5 0 9;wide 0 1 0 9 after 0;wide 0 1 0 9 after 1;wide 0 9 0 9;");
        r.eq("all three hang on 0; 3 stands for it", w.without(0), 2);
        r.eq("1 and what is after it", w.without(1), 2);
        r.eq("2 alone", w.without(2), 1);
        r.eq("3 isn't among the most", w.without(3), 0);
        w.take(0);
        r.eq("had", w.without(0), 0);
        r.eq("1 and what is after it", w.without(1), 2);
    }

    private void shorterAndIdle() {
        r.says("A SHORTER day: how many THE MOST would be, were the DAY so many MINUTES (0 to 480) less (to NOW at the"
                + " least).");
        CloudTakes x = Tape.planned("day 20;wide 0 5 0 19;wide 0 5 0 19;");
        r.eq("shorter(0)", x.shorter(0), 2);
        r.eq("10 minutes", x.shorter(10), 2);
        r.eq("9 minutes", x.shorter(11), 1);
        r.eq("5 minutes", x.shorter(15), 1);
        r.eq("4 minutes", x.shorter(16), 0);
        r.eq("none", x.shorter(20), 0);
        r.eq("less than none", x.shorter(21), 0);
        r.eq("shorter(480)", x.shorter(480), 0);
        x.take(0);
        r.eq("up to NOW", x.shorter(15), 0);
        r.eq("up to NOW at the least", x.shorter(480), 0);
        r.eq("5 behind NOW", x.shorter(10), 1);
        r.counts(x, 1, 20, 5, 5);
        CloudTakes minute = Tape.planned("day 10;move 0;wide 0 1 0 9;inside 0 1 0 9;");
        r.eq("a day of 2 minutes", minute.shorter(8), 2);
        r.eq("a day of a minute", minute.shorter(9), 1);
        r.eq("a day of none, in minute 0", minute.shorter(10), 0);
        r.eq("a day of none, in minute 0", minute.shorter(480), 0);
        r.says("IDLE: how many MINUTES one waits in A DAY BY A RULE, how often all move in it.");
        CloudTakes y = Tape.planned("day 30;move 4;inside 0 3 0 29;wide 0 5 0 29 after 0;rule 1;rule 2-kind;");
        r.eq("4 and 3 and 4 and 5, then 14", y.idle(0, 0), 14);
        r.eq("to and fro", y.idle(0, 1), 2);
        r.eq("inside is given 0", y.idle(1, 0), 26);
        r.eq("one goes there all the same", y.idle(1, 1), 1);
        r.says("REGRET: THE MOST less how many are had by THE BEST rule.");
        CloudTakes z = Tape.planned("day 10;wide 0 6 0 9;wide 0 2 0 3;wide 0 2 0 3;rule 0;");
        r.eq("3", z.most(0), 3);
        r.eq("by none 0 alone", z.day(NONE, 0), 1);
        r.eq("regret()", z.regret(), 2);
        CloudTakes good = Tape.planned("day 10;wide 0 6 0 9;wide 0 2 0 3;wide 0 2 0 3;rule 0;rule 9-length;");
        r.eq("by the best all", good.regret(), 0);
        r.eq("of none none", new CloudTakes().regret(), 0);
    }

    private void holes() {
        r.says("HOLES are the parts of sun of the day that are as long as can be: how many of so many MINUTES or more"
                + " (1 to 480);");
        CloudTakes x = Tape.planned("day 30;sun 2;sun 1;cloud 4;sun 3;cloud 1;sun 7;cloud 9;sun 480;");
        r.eq("0 to 2, 7 to 9, 11 to 17, 27 to 29", x.holes(1), 4);
        r.eq("holes(3)", x.holes(3), 4);
        r.eq("holes(4)", x.holes(4), 1);
        r.eq("holes(7)", x.holes(7), 1);
        r.eq("holes(8)", x.holes(8), 0);
        CloudTakes all = Tape.planned("day 480;sun 480;");
        r.eq("all the longest day", all.holes(480), 1);
        all.clouds(240, 240, false);
        r.eq("holes(240)", all.holes(240), 1);
        r.eq("holes(239)", all.holes(239), 2);
        r.eq("holes(241)", all.holes(241), 0);
        r.eq("none", new CloudTakes().holes(1), 0);
        r.says("the mean LENGTH of all as a fraction in lowest terms;");
        r.eq("16", x.hole(0), 4);
        r.eq("by 4", x.hole(1), 1);
        x.clouds(29, 29, false);
        r.eq("15", x.hole(0), 15);
        r.eq("by 4", x.hole(1), 4);
        x.clouds(28, 28, false);
        r.eq("14 by 4", x.hole(0), 7);
        r.eq("14 by 4", x.hole(1), 2);
        CloudTakes one = Tape.planned("day 480;sun 480;");
        r.eq("one of 480", one.hole(0), 480);
        r.eq("one of 480", one.hole(1), 1);
        r.says("the longest (the first MINUTE of the first such).");
        r.eq("7", x.hole(2), 7);
        r.eq("from 11 on", x.hole(3), 11);
        x.clouds(17, 17, false);
        x.clouds(12, 13, false);
        r.eq("3 each", x.hole(2), 3);
        r.eq("the first of them", x.hole(3), 0);
        CloudTakes last = Tape.planned("day 480;cloud 479;sun 1;");
        r.eq("the day's last minute", last.hole(2), 1);
        r.eq("the day's last minute", last.hole(3), 479);
    }

    private void tries() {
        r.says("A TRY by chances: sun goes on for a MINUTE more with so many tenths (0 to 10), each MINUTE for itself:"
                + " how likely it lasts so many (1 to 9) MINUTES more, as a fraction in lowest terms.");
        CloudTakes x = new CloudTakes();
        int[][] due = {{0, 1, 0, 1}, {0, 9, 0, 1}, {10, 1, 1, 1}, {10, 9, 1, 1}, {1, 1, 1, 10}, {1, 9, 1, 1000000000},
            {5, 1, 1, 2}, {5, 9, 1, 512}, {8, 3, 64, 125}, {9, 2, 81, 100}, {7, 9, 40353607, 1000000000},
            {6, 9, 19683, 1953125}};
        for (int[] d : due) {
            r.eq("lasts(" + d[0] + ", " + d[1] + ", 0)", x.lasts(d[0], d[1], 0), d[2]);
            r.eq("lasts(" + d[0] + ", " + d[1] + ", 1)", x.lasts(d[0], d[1], 1), d[3]);
        }
        r.says("WORTH IT: lasts it so long, one gains so much (0 to 999) less FILM (0 to 99) for each of these MINUTES;");
        r.eq("sure", x.trial(10, 9, 999, 99), (999L - 891) * 1000000000);
        r.eq("sure", x.trial(10, 1, 0, 99), -99 * 10);
        r.eq("sure and free", x.trial(10, 1, 999, 0), 999 * 10);
        r.eq("without film", x.trial(3, 2, 100, 0), 900);
        r.eq("nothing at all", x.trial(3, 2, 0, 0), 0);
        r.says("else one loses FILM for each up to the first one in which it goes on no more, that too:");
        r.eq("never", x.trial(0, 9, 999, 99), -99L * 1000000000);
        r.eq("never, in one minute", x.trial(0, 1, 999, 1), -10);
        r.eq("3 of 10 and 7 of 10", x.trial(3, 1, 20, 4), 3 * 16 - 7 * 4);
        r.eq("9 of 100, 70, and 21", x.trial(3, 2, 20, 4), 9 * 12 - 70 * 4 - 21 * 8);
        r.says("what one gains in the mean, by 10 to the power of so many (a whole number).");
        r.eq("27 of 1000, 700, 210 and 63", x.trial(3, 3, 500, 7), 27 * 479 - 700 * 7 - 210 * 14 - 63 * 21);
        r.eq("beyond an int", x.trial(9, 9, 999, 0), 387420489L * 999);
        r.says("COLD is what actors are by waiting: COLD by 'waited' now, 100 at most.");
        CloudTakes cold = Tape.planned("day 480;cold 3;wide 0 1 0 480;");
        cold.await(33);
        r.counts(cold, 12, 99);
        cold.await(1);
        r.counts(cold, 12, 100, 11, 34);
        cold.await(60);
        r.counts(cold, 12, 100, 11, 94);
        cold.take(0);
        r.counts(cold, 12, 0);
        cold.await(4);
        r.counts(cold, 12, 12);
        CloudTakes one = Tape.planned("day 480;");
        one.await(60);
        one.await(40);
        r.counts(one, 12, 100);
        one.await(1);
        r.counts(one, 12, 100, 11, 101);
        CloudTakes never = Tape.planned("cold 0;");
        never.await(60);
        r.counts(never, 12, 0);
    }

    private void seen() {
        r.says("SEEN (at most 8): that a SHOT was HAD by the end of a MINUTE (0 to 479; what is HAD now was), or wasn't.");
        CloudTakes x = Tape.planned("day 10;wide 0 3 0 9;wide 0 2 0 9;rule length;rule 5-length;rule 0;");
        for (int i = 1; i <= 8; i++) {
            r.eq("see", x.see(0, 479, i > 1), i);
        }
        r.eq("a ninth", x.see(0, 479, true), NONE);
        r.counts(x, 14, 8);
        r.eq("was and wasn't", x.which(), 0);
        x.forget();
        r.eq("minute -1", x.see(0, -1, true), NONE);
        r.eq("minute 480", x.see(0, 480, true), NONE);
        r.eq("minute 0", x.see(0, 0, false), 1);
        r.eq("minute 479, behind the day", x.see(0, 479, true), 2);
        r.eq("rules 0 and 1, none", x.which(), 19);
        x.forget();
        x.take(0);
        x.see(0, 0, true);
        r.eq("what is had now was", x.which(), 23);
        x.see(0, 479, false);
        r.eq("what is had now was", x.which(), 0);
        x.undo();
        r.says("WHICH RULE: of RULES (bits; bit 4: by none) those by whose day from now on all SEEN would be so.");
        x.forget();
        r.eq("nothing is seen: all", x.which(), 7 + 16);
        x.see(0, 2, true);
        r.eq("by the end of 2", x.which(), 1 + 16);
        x.forget();
        x.see(0, 1, true);
        r.eq("by the end of 1: none", x.which(), 0);
        x.forget();
        x.see(1, 1, true);
        x.see(0, 4, true);
        x.see(0, 3, false);
        r.eq("1 first", x.which(), 2);
        x.forget();
        x.see(1, 479, false);
        r.eq("never", x.which(), 4);
        x.forget();
        x.see(1, 5, true);
        x.await(2);
        r.eq("from now on: 1 by 3", x.which(), 2);
        CloudTakes four = Tape.planned("day 10;wide 0 3 0 9;rule 0;rule 0;rule 0;rule 1;");
        four.see(0, 9, true);
        r.eq("rule 3 and none", four.which(), 8 + 16);
    }

    /** A draw as the document tells it, of numbers so long that nothing wraps. */
    private static int draw(long[] seed, int n) {
        seed[0] = Math.floorMod(seed[0] * 1103515245L + 12345L, 1L << 32);
        return (int) (seed[0] / 65536 % 32768 % n);
    }

    /** The week by a rule, each day told as a text of its own; {shots, the fewest, film}. */
    private static int[] byTexts(String shots, int now, int rule, int seed, int n) {
        long[] drawn = {Math.floorMod((long) seed, 1L << 32)};
        int[] sums = {0, n == 0 ? 0 : 9, 0};
        for (int day = 0; day < n; day++) {
            StringBuilder text = new StringBuilder(now == 0 ? "" : "sun " + now + ";");
            int parts = draw(drawn, 16);
            for (int i = 0; i < parts; i++) {
                text.append(i % 2 == 0 ? "cloud " : "sun ").append(draw(drawn, 30) + 1).append(';');
            }
            CloudTakes one = Tape.planned(text + shots);
            if (now > 0) {
                one.await(now);
            }
            sums[0] += one.day(rule, 0);
            sums[1] = Math.min(sums[1], one.day(rule, 0));
            sums[2] += one.day(rule, 1);
        }
        return sums;
    }

    private void week() {
        r.says("A WEEK by a seed: n DAYS (0 to 10) by a told rule (NONE: none), each from now on,");
        String shots = "day 150;wide 1 9 0 149;wide 2 20 0 149;near 1 30 30 149;wide 0 25 0 90;wide 1 5 60 149 after 0;"
                + "wide 1 14 80 149;wide 2 26 90 149;wide 1 21 0 149;rule left-length+1;rule length;";
        int[] seeds = {0, 1, 2, 77, -1, 12345, Integer.MAX_VALUE, Integer.MIN_VALUE};
        for (int now : new int[] {0, 17}) {
            CloudTakes x = Tape.planned("sun 100;" + shots);
            if (now > 0) {
                x.await(now);
            }
            for (int seed : seeds) {
                for (int rule = NONE; rule < 2; rule++) {
                    int n = Math.floorMod(seed + rule, 11);
                    int[] due = byTexts(shots, now, rule, seed, n);
                    int[] ten = byTexts(shots, now, rule, seed, 10);
                    for (int what = 0; what < 3; what++) {
                        String call = "week(" + rule + ", " + seed + ", .., " + what + ") from " + now;
                        r.eq(call, x.week(rule, seed, n, what), due[what]);
                        r.eq(call, x.week(rule, seed, 10, what), ten[what]);
                    }
                }
            }
            r.counts(x, 5, now, 7, 0, 8, 0, 13, now == 0 ? 0 : 1);
            r.eq("the sky stays", x.sky(0, 1), 100);
        }
        // Seed 1 draws 16838, then 5758, 10113, 17515, 31051, 5627 and 23010: 6 parts of 29, 4, 26, 2, 18 and 1.
        String whole = "wide 2 29 0 0;wide 1 4 29 29;wide 2 26 33 33;wide 1 2 59 59;wide 2 18 61 61;wide 1 1 79 79;"
                + "wide 2 20 80 80;wide 1 20 80 80;day 100;";
        CloudTakes y = Tape.planned("sun 100;" + whole);
        r.says("ahead of each a DRAW of 16 tells how many parts the sky has from NOW on, a DRAW of 30 for each, and 1,"
                + " how many MINUTES:");
        r.eq("every part just as long", y.week(NONE, 1, 1, 2), 100);
        y.await(1);
        r.eq("from 1 on all is a minute later: none fits", y.week(NONE, 1, 1, 0), 0);
        y.undo();
        r.says("cloud, then sun, and so on, cloud behind them:");
        r.eq("every part of its kind, and 80 to 99 of cloud", y.week(NONE, 1, 1, 0), 7);
        CloudTakes last = Tape.planned("day 480;sun 480;wide 2 1 479 479;");
        r.eq("15 parts of 30 are 450 minutes: the last of the longest day is cloud", last.week(NONE, 1, 10, 0), 10);
        r.eq("15 parts of 30 are 450 minutes: the last of the longest day is cloud", last.week(NONE, -1, 10, 1), 1);
        last.await(60);
        r.eq("so it is from 60 on, with 6 parts", last.week(NONE, 1, 1, 0), 1);
        r.says("SHOTS that are HAD in all; the fewest in one; FILM in all (of what is taken in these days).");
        r.eq("no days", y.week(NONE, 1, 0, 0), 0);
        r.eq("no days", y.week(NONE, 1, 0, 1), 0);
        r.eq("no days", y.week(NONE, 1, 0, 2), 0);
        CloudTakes z = Tape.planned("day 20;wide 0 1 0 19;wide 0 1 0 19;wide 1 1 0 0;");
        z.take(0);
        r.eq("what is had already isn't had in these days", z.week(NONE, 5, 10, 0), 10);
        r.eq("one each", z.week(NONE, 5, 10, 1), 1);
        r.eq("nor is its film", z.week(NONE, 5, 10, 2), 10);
    }

    private void draws() {
        r.says("A seed becomes itself times 1103515245 and 12345 (an int that wraps);");
        CloudTakes x = Tape.planned("day 10;sun 10;wide 1 1 0 9;wide 2 10 0 0;");
        r.eq("0 becomes 12345, which draws 0: no part, all cloud", x.week(NONE, 0, 1, 1), 1);
        r.eq("0 becomes 12345, which draws 0: no part, all cloud", x.week(NONE, 0, 1, 2), 10);
        r.says("a DRAW of n is its bits 16 to 30 MOD n then.");
        // -1 becomes -1103502900, whose bits 16 to 30 are 15929: 9 parts; bit 31 doesn't count.
        long[] drawn = {Math.floorMod(-1L, 1L << 32)};
        r.eq("of 16", draw(drawn, 16), 9);
        int cloud = draw(drawn, 30) + 1;
        int sun = draw(drawn, 30) + 1;
        CloudTakes y = Tape.planned("day 100;wide 2 " + cloud + " 0 0;wide 1 " + sun + " " + cloud + " " + cloud + ";");
        r.eq("the first two parts", y.week(NONE, -1, 1, 0), 2);
        r.eq("the first two parts", y.week(NONE, -1, 1, 2), cloud + sun);
    }

    private void image() {
        r.says("STATUS: how many calls were refused: 0 TEXTS with a FAULT, 1 ACTS, 2 what is SEEN.");
        CloudTakes x = Tape.planned("day 20;sun 4;wide 0 5 0 19;wide 0 2 0 19;inside 0 1 0 19;move 3;");
        Tape.plan(x, "x");
        Tape.plan(x, "sun 0;");
        r.counts(x, 16, 2, 17, 0, 18, 0);
        x.take(2);
        x.await(0);
        x.move(false);
        x.clouds(3, 2, true);
        r.counts(x, 16, 2, 17, 4, 18, 0, 13, 0);
        x.see(0, 480, true);
        r.counts(x, 16, 2, 17, 4, 18, 1);
        x.undo();
        x.sets(0, false);
        x.restore();
        r.counts(x, 16, 2, 17, 4, 18, 1);
        r.says("AN IMAGE keeps NOW, where all are, what is HAD, spoilt, waited, FILM, LAMPS, SILK, the sky, ACTS that are"
                + " kept, what is SEEN, STATUS.");
        x.undo();
        x.take(0);
        x.take(1);
        x.move(true);
        x.sets(0, true);
        x.sets(1, true);
        x.clouds(19, 19, true);
        x.await(4);
        x.see(2, 19, false);
        x.image();
        for (int round = 0; round < 3; round++) {
            keepsAll(x);
            others(x, round);
            r.eq("restore()", x.restore(), true);
        }
        keepsAll(x);
        fullImage();
    }

    /** As many acts as are kept, and as much as can be seen. */
    private void fullImage() {
        CloudTakes x = Tape.planned("day 60;wide 0 1 0 59;wide 0 1 50 59;");
        for (int i = 0; i < 41; i++) {
            x.await(1);
        }
        for (int i = 0; i < 8; i++) {
            x.see(i & 1, 49 + i, i > 1);
        }
        r.eq("0 is had in 41: not as seen", x.which(), 0);
        x.image();
        x.await(1);
        x.forget();
        r.eq("nothing is seen", x.which(), 16);
        r.eq("restore()", x.restore(), true);
        r.counts(x, 5, 41, 13, 40, 14, 8);
        r.eq("what is seen", x.which(), 0);
        r.eq("a ninth", x.see(0, 1, true), NONE);
        for (int i = 39; i >= 0; i--) {
            r.eq("undo()", x.undo(), i);
            r.counts(x, 5, i + 1);
        }
        r.eq("undo()", x.undo(), NONE);
        r.counts(x, 5, 1, 14, 8);
    }

    private void keepsAll(CloudTakes x) {
        r.counts(x, 5, 14, 6, 1, 7, 2, 8, 7, 9, 1, 10, 1, 11, 4, 13, 7, 14, 1, 16, 2, 17, 4, 18, 1);
        r.eq("spoilt", x.shot(0, 7), 1);
        r.eq("the sky", x.sky(19, 0), 1);
        r.eq("the sky", x.sky(0, 1), 4);
        r.eq("what is seen: that 2 is not had by none", x.which(), 0);
        int[] now = {10, 10, 10, 10, 7, 5, 0};
        for (int i = 0; i < now.length; i++) {
            r.eq("acts that are kept", x.undo(), 6 - i);
            r.counts(x, 5, now[i], 6, i < 4 ? 1 : 0, 9, i < 3 ? 1 : 0, 10, i < 2 ? 1 : 0);
        }
        r.eq("all are undone", x.undo(), NONE);
        r.counts(x, 7, 0, 8, 0);
        r.eq("the sky of before", x.sky(19, 0), 0);
        r.eq("not spoilt yet", x.shot(0, 7), 0);
    }

    /** Other acts, as many or more, in the place of those that the image keeps. */
    private static void others(CloudTakes x, int round) {
        for (int i = 0; i < 5 + 20 * round; i++) {
            x.sets(i & 1, i % 3 == 0);
            x.clouds(0, 19, i % 2 == 0);
        }
        x.await(2);
        x.take(1);
        x.forget();
        x.see(2, 3, true);
        x.see(2, 4, false);
        x.see(2, 500, false);
        x.await(99);
        Tape.plan(x, "y");
    }
}
