import java.util.List;
import java.util.NoSuchElementException;
import java.util.Random;
import java.util.function.LongSupplier;

/** Random runs of calls (by fixed seeds), each answer compared with that of the plain model. */
public final class ModelTest {

    private static int wrong = 0;
    private static int compared = 0;

    private final Random random;
    private final CloudTakes x = new CloudTakes();
    private final PlainModel m = new PlainModel();
    private final StringBuilder story = new StringBuilder();
    private int calls = 0;

    private ModelTest(long seed) {
        random = new Random(seed);
    }

    public static void main(String[] args) {
        int runs = args.length > 1 ? Integer.parseInt(args[1]) : 400;
        for (int i = 0; i < runs && wrong < 5; i++) {
            new ModelTest(i).run(i);
        }
        System.out.println(compared + " answers compared with the plain model, " + wrong + " wrong");
        if (wrong != 0 || compared < 10000) {
            System.exit(1);
        }
    }

    private void due(String call, LongSupplier got, LongSupplier want) {
        if (++calls > 512) {
            return;
        }
        String g = answer(got);
        String w = answer(want);
        compared++;
        story.append(call).append(" -> ").append(g).append('\n');
        if (!g.equals(w)) {
            wrong++;
            System.out.println("---\n" + story + call + " answered " + g + ", the model says " + w);
        }
    }

    private static String answer(LongSupplier call) {
        try {
            return String.valueOf(call.getAsLong());
        } catch (NoSuchElementException e) {
            return "throws NoSuchElementException";
        } catch (IllegalArgumentException e) {
            return "throws IllegalArgumentException";
        }
    }

    private int upTo(int n) {
        return random.nextInt(n + 1);
    }

    private void run(int seed) {
        boolean big = seed % 40 == 39;
        // One plan and many acts, or plans one behind the other on the same object.
        int plans = seed % 3 == 0 ? 4 : 1;
        for (int k = 0; k < plans; k++) {
            tell(upTo(5) == 0 && plans > 1 ? plan(big) + "x" : plan(big));
            for (int i = 0; i < 60 / plans; i++) {
                act();
                if (i % 6 == 0) {
                    ask();
                }
            }
        }
    }

    /** Feeds a text to both and has it read. */
    private void tell(String text) {
        story.append("text: ").append(text).append('\n');
        for (int at = 0; at < text.length(); at += 20) {
            int[] n = new int[5];
            for (int i = 0; i < 20; i++) {
                int sign = at + i < text.length() ? text.charAt(at + i) : ' ';
                n[i / 4] = n[i / 4] << 8 | sign & 255;
            }
            due("feed", () -> x.feed(n[0], n[1], n[2], n[3], n[4]), () -> m.feed(n));
        }
        due("plan", () -> x.plan(text.length()), () -> m.plan(text.length()));
        due("fault", x::fault, () -> m.faultPlace);
    }

    // ---- texts

    private String plan(boolean big) {
        StringBuilder b = new StringBuilder();
        int day = big ? upTo(3) == 0 ? 480 : 300 + upTo(180) : 10 + upTo(60);
        int shots = big ? 8 : upTo(5);
        if (big || upTo(15) > 0) {
            b.append("day ").append(day).append(';');
        }
        if (upTo(9) > 0) {
            b.append("move ").append(upTo(big ? 60 : 12)).append(';');
        }
        if (upTo(2) > 0) {
            b.append("cold ").append(upTo(9)).append(';');
        }
        int parts = upTo(big ? 16 : 10);
        for (int i = 0; i < parts; i++) {
            b.append(upTo(1) == 0 ? "sun " : "cloud ").append(1 + upTo(big ? 40 : 11)).append(";");
        }
        for (int i = 0; i < shots; i++) {
            int from = upTo(3) == 0 ? upTo(day) : 0;
            int to = Math.min(480, from + upTo(day));
            b.append(new String[] {"wide ", "near ", "inside ", "wide\n"}[upTo(3)]).append(upTo(2)).append(' ')
                    .append(1 + upTo(big ? 12 : 7)).append(' ').append(from).append(' ').append(to);
            if (i > 0 && upTo(2) == 0) {
                b.append(" after ").append(upTo(i - 1));
            }
            b.append(';');
        }
        int rules = upTo(4);
        for (int i = 0; i < rules; i++) {
            b.append("rule ").append(expr(3)).append(';');
        }
        return b.length() > 690 ? plan(big) : b.toString();
    }

    private String expr(int depth) {
        if (depth == 0 || upTo(4) == 0) {
            return upTo(2) == 0 ? String.valueOf(upTo(upTo(5) == 0 ? 9999 : 12))
                    : PlainModel.VALUES.get(upTo(PlainModel.VALUES.size() - 1));
        }
        String sign = new String[] {"+", "-", "*", "/", "<", "=", " and ", " or ", "-", "+"}[upTo(9)];
        String joined = closed(depth - 1, sign) + sign + closed(depth - 1, sign);
        return upTo(5) == 0 ? "not " + joined : joined;
    }

    /** In parentheses where the sign asks for them, and at times where it doesn't. */
    private String closed(int depth, String sign) {
        String inner = expr(depth);
        boolean isOne = inner.matches("[a-z]+|[0-9]+");
        boolean isLoose = sign.equals(" and ") || sign.equals(" or ");
        return isOne || isLoose && upTo(1) == 0 || inner.matches("[a-z0-9*/]+") && upTo(1) == 0 ? inner
                : "(" + inner + ")";
    }

    // ---- acts

    private int anyShot() {
        return upTo(Math.max(0, m.shots.size()) + 1) - 1;
    }

    private boolean isShot(int shot) {
        return shot >= 0 && shot < m.shots.size();
    }

    private void checkShot(int shot) {
        if (!isShot(shot)) {
            throw new NoSuchElementException();
        }
    }

    private static void checkWhat(int what, int last) {
        if (what < 0 || what > last) {
            throw new NoSuchElementException();
        }
    }

    private void checkMinute(int minute) {
        if (minute < 0 || minute >= m.day) {
            throw new NoSuchElementException();
        }
    }

    private void checkRule(int rule) {
        if (rule < -1 || rule >= m.rules.size()) {
            throw new NoSuchElementException();
        }
    }

    private static void check(boolean holds) {
        if (!holds) {
            throw new IllegalArgumentException();
        }
    }

    private void act() {
        int shot = anyShot();
        int n = upTo(9) == 0 ? upTo(130) - 30 : 1 + upTo(3);
        boolean on = random.nextBoolean();
        switch (upTo(13)) {
            case 0, 1, 2, 3 -> due("take " + shot, () -> x.take(shot), () -> {
                checkShot(shot);
                return m.take(shot);
            });
            case 4, 5 -> due("await " + n, () -> x.await(n), () -> m.await(n));
            case 6 -> due("move " + on, () -> x.move(on), () -> m.move(on));
            case 7 -> {
                int what = upTo(12) == 0 ? 2 : upTo(1);
                due("sets " + what + " " + on, () -> x.sets(what, on) ? 1 : 0, () -> {
                    checkWhat(what, 1);
                    return m.sets(what, on) ? 1 : 0;
                });
            }
            case 8 -> {
                int from = upTo(m.day + 3) - 1;
                int to = from + upTo(12) - 1;
                due("clouds " + from + " " + to + " " + on, () -> x.clouds(from, to, on),
                        () -> m.clouds(from, to, on));
            }
            case 9, 10 -> due("undo", x::undo, m::undo);
            case 11 -> {
                int minute = upTo(20) == 0 ? 478 + upTo(4) : upTo(m.day + 1) - 1;
                due("see " + shot + " " + minute + " " + on, () -> x.see(shot, minute, on), () -> {
                    checkShot(shot);
                    if (minute < 0 || minute > 479 || m.seen.size() == 8) {
                        m.status[2]++;
                        return -1;
                    }
                    m.seen.add(new PlainModel.Seen(shot, minute, on));
                    return m.seen.size();
                });
            }
            case 12 -> {
                if (upTo(1) == 0) {
                    due("image", () -> {
                        x.image();
                        return 0;
                    }, () -> {
                        m.image();
                        return 0;
                    });
                } else {
                    due("restore", () -> x.restore() ? 1 : 0, () -> m.restore() ? 1 : 0);
                }
            }
            default -> {
                if (upTo(3) == 0) {
                    due("forget", () -> {
                        x.forget();
                        return 0;
                    }, () -> {
                        m.seen.clear();
                        return 0;
                    });
                }
            }
        }
    }

    // ---- questions

    private void ask() {
        for (int i = 5; i < 19; i++) {
            int what = i;
            due("count " + what, () -> x.count(what), () -> m.count(what));
        }
        askSky();
        askDays();
        askMost();
    }

    private void askSky() {
        int minute = upTo(m.day + 1) - 1;
        int shot = anyShot();
        int what = upTo(2);
        due("sky " + minute + " " + what, () -> x.sky(minute, what), () -> {
            checkMinute(minute);
            checkWhat(what, 1);
            return what == 0 ? m.state.sun[minute] ? 1 : 0 : m.left(m.state, minute);
        });
        due("edge " + minute, () -> x.edge(minute), () -> {
            checkMinute(minute);
            return m.edge(minute);
        });
        due("why " + shot + " " + minute, () -> x.why(shot, minute), () -> {
            checkShot(shot);
            checkMinute(minute);
            return m.why(m.state, shot, minute, m.day);
        });
        due("ready " + minute, () -> x.ready(minute), () -> {
            checkMinute(minute);
            int bits = 0;
            for (int i = 0; i < m.shots.size(); i++) {
                bits |= m.why(m.state, i, minute, m.day) == 0 ? 1 << i : 0;
            }
            return bits;
        });
        due("chances " + shot + " " + what, () -> x.chances(shot, what), () -> {
            checkShot(shot);
            checkWhat(what, 1);
            int many = 0;
            int first = -1;
            for (int t = m.day - 1; t >= m.state.now; t--) {
                if (m.wouldBeHad(m.state, m.shots.get(shot), t, m.day)) {
                    many++;
                    first = t;
                }
            }
            return what == 0 ? many : first;
        });
        int of = upTo(8);
        due("shot " + shot + " " + of, () -> x.shot(shot, of), () -> shotOf(shot, of));
        int least = upTo(20) == 0 ? 0 : 1 + upTo(8);
        due("holes " + least, () -> x.holes(least), () -> {
            check(least >= 1 && least <= 480);
            return m.holes().stream().filter(h -> h[1] >= least).count();
        });
        int about = upTo(4);
        due("hole " + about, () -> x.hole(about), () -> hole(about));
    }

    private int shotOf(int shot, int what) {
        checkShot(shot);
        checkWhat(what, 7);
        PlainModel.Shot s = m.shots.get(shot);
        return new int[] {s.kind(), s.light(), s.length(), s.from(), s.to(), s.after(),
            m.state.had[shot] ? 1 : 0, m.state.spoilt[shot]}[what];
    }

    private int hole(int what) {
        checkWhat(what, 3);
        List<int[]> holes = m.holes();
        int sum = holes.stream().mapToInt(h -> h[1]).sum();
        int longest = holes.stream().mapToInt(h -> h[1]).max().orElse(0);
        int first = holes.stream().filter(h -> h[1] == longest).mapToInt(h -> h[0]).findFirst().orElse(-1);
        int common = 1;
        for (int i = 1; i <= holes.size(); i++) {
            common = sum % i == 0 && holes.size() % i == 0 ? i : common;
        }
        return switch (what) {
            case 0 -> sum / common;
            case 1 -> holes.isEmpty() ? 1 : holes.size() / common;
            case 2 -> longest;
            default -> first;
        };
    }

    private void askDays() {
        int rule = upTo(m.rules.size() + 1) - 1;
        int what = upTo(5);
        due("day " + rule + " " + what, () -> x.day(rule, what), () -> {
            checkRule(rule);
            checkWhat(what, 4);
            PlainModel.Day d = m.day(m.state, rule);
            return new int[] {d.had, d.film, d.spoilt, d.last, d.bits}[what];
        });
        int about = upTo(2);
        due("idle " + rule + " " + about, () -> x.idle(rule, about), () -> {
            checkRule(rule);
            checkWhat(about, 1);
            PlainModel.Day d = m.day(m.state, rule);
            return about == 0 ? d.idle : d.moves;
        });
        due("best", x::best, m::best);
        due("which", x::which, m::which);
        int seed = random.nextInt();
        int n = upTo(6) == 0 ? upTo(13) - 1 : 1 + upTo(3);
        int of = upTo(3);
        due("week " + rule + " " + seed + " " + n + " " + of, () -> x.week(rule, seed, n, of), () -> {
            checkRule(rule);
            checkWhat(of, 2);
            check(n >= 0 && n <= 10);
            return m.week(rule, seed, n, of);
        });
    }

    private void askMost() {
        int what = upTo(3);
        int[] most = m.most(m.state, m.day, 255);
        due("most " + what, () -> x.most(what), () -> {
            checkWhat(what, 2);
            return most[what];
        });
        int i = upTo(m.shots.size() + 1) - 1;
        due("order " + i, () -> x.order(i), () -> {
            List<Integer> order = m.order();
            checkWhat(i, order.size() - 1);
            return order.get(i);
        });
        int set = upTo(6) == 0 ? random.nextInt() : upTo((1 << m.shots.size()) - 1);
        due("soonest " + set, () -> x.soonest(set), () -> {
            int had = m.state.hadBits();
            check(set >= 0 && set < 1 << m.shots.size() && (set & had) == 0);
            return m.soonest(m.state, m.day, set)[set | had];
        });
        due("inside", x::inside, m::inside);
        int shot = anyShot();
        due("without " + shot, () -> x.without(shot), () -> {
            checkShot(shot);
            return most[0] - m.most(m.state, m.day, 255 & ~(1 << shot))[0];
        });
        int gear = upTo(2);
        due("worth " + gear, () -> x.worth(gear), () -> {
            checkWhat(gear, 1);
            return mostWith(gear, true) - mostWith(gear, false);
        });
        int minutes = upTo(20) == 0 ? 481 : upTo(m.day + 3) - 1;
        due("shorter " + minutes, () -> x.shorter(minutes), () -> {
            check(minutes >= 0 && minutes <= 480);
            return m.most(m.state, Math.max(m.state.now, m.day - minutes), 255)[0];
        });
        due("regret", x::regret, () -> most[0] - m.day(m.state, m.best()).had);
    }

    private int mostWith(int gear, boolean on) {
        PlainModel.State s = m.state.copy();
        if (gear == 0) {
            s.lamps = on;
        } else {
            s.silk = on;
        }
        return m.most(s, m.day, 255)[0];
    }
}
