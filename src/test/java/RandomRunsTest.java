import java.util.Random;

/** Runs of up to 512 calls, always the same ones, answered by the class as by the model. */
public final class RandomRunsTest {
    private static final int RUNS = 3000;
    private static final int CALLS = 512;
    private static final String SIGNS = "c,;pdux0123456789 ";
    private static final int[] FAR = {-1, -2, 61, 100, 127, 255, 65535, 65536,
        Integer.MAX_VALUE, Integer.MAX_VALUE - 1, Integer.MIN_VALUE, Integer.MIN_VALUE + 1};

    private final Due due;
    private final Random random;
    private final int run;
    private final DunceSee x = new DunceSee();
    private final Model m = new Model();
    private int calls;

    private RandomRunsTest(Due due, int run) {
        this.due = due;
        this.run = run;
        this.random = new Random(run);
    }

    public static void main(String[] args) {
        Due due = new Due("RandomRunsTest");
        for (int run = 0; run < RUNS; run++) {
            RandomRunsTest one = new RandomRunsTest(due, run);
            while (one.calls < CALLS - 40) {
                one.step();
            }
        }
        due.end();
    }

    private void due(String call, long got, long want) {
        calls++;
        due.is("run " + run + ", call " + calls + ": " + call, got, want);
    }

    /** Mostly near 0 .. below, now and then far off. */
    private int near(int below) {
        if (random.nextInt(24) == 0) {
            return FAR[random.nextInt(FAR.length)];
        }
        return random.nextInt(12) == 0 ? random.nextInt(below + 3) - 1 : random.nextInt(below);
    }

    private void step() {
        int which = random.nextInt(100);
        if (calls == 0 && random.nextInt(8) != 0 || which < 2) {
            text();
        } else if (which < 14) {
            plan();
        } else if (which < 30) {
            sheets();
        } else if (which < 46) {
            readings();
        } else if (which < 56) {
            changes();
        } else {
            questions();
        }
    }

    private void text() {
        int k = random.nextInt(4);
        int lane = random.nextInt(3);
        int ahead = random.nextInt(3);
        StringBuilder text = new StringBuilder("c");
        text.append(random.nextInt(10)).append(1 + random.nextInt(4)).append(',');
        for (int d = random.nextInt(5); d >= 0; d--) {
            text.append(random.nextInt(10));
        }
        for (int p = random.nextInt(4); p >= 0; p--) {
            text.append(';').append("pdu".charAt(random.nextInt(3)))
                .append(random.nextInt(10)).append(random.nextInt(10));
        }
        if (random.nextInt(3) == 0) {
            spoil(text);
        }
        int n = text.length();
        due("sheet", x.sheet(k, lane, ahead + n), m.sheet(k, lane, ahead + n));
        for (int i = 0; i < n; i++) {
            int code = text.charAt(i);
            due("put", x.put(k, ahead + i, code), m.put(k, ahead + i, code));
        }
        due("see of " + text, x.see(k, lane, ahead, n), m.see(k, lane, ahead, n));
        due("fault()", x.fault(), m.fault());
    }

    private void spoil(StringBuilder text) {
        int at = random.nextInt(text.length());
        char sign = SIGNS.charAt(random.nextInt(SIGNS.length()));
        switch (random.nextInt(3)) {
            case 0 -> text.setCharAt(at, sign);
            case 1 -> text.insert(at, sign);
            default -> text.setLength(at);
        }
    }

    private void plan() {
        int k = random.nextInt(4);
        int lane = random.nextInt(3);
        int n = random.nextInt(10) == 0 ? random.nextInt(6) : m.many(0);
        int days = m.many(1);
        due("sheet", x.sheet(k, lane, n + 1), m.sheet(k, lane, n + 1));
        for (int i = 0; i <= n; i++) {
            int set = random.nextInt(30) == 0 ? near(40) : random.nextInt(1 << days);
            due("put", x.put(k, i, set), m.put(k, i, set));
        }
        int i = random.nextInt(2);
        for (int what = 0; what < 25; what++) {
            if (random.nextInt(4) != 0) {
                continue;
            }
            due("plan what " + what, x.plan(k, lane, i, n, what), m.plan(k, lane, i, n, what));
        }
        anyPlan();
    }

    private void anyPlan() {
        int k = near(4);
        int lane = near(3);
        int i = near(3);
        int n = near(6);
        int what = near(26);
        due("plan(" + k + ", " + lane + ", " + i + ", " + n + ", " + what + ")",
            x.plan(k, lane, i, n, what), m.plan(k, lane, i, n, what));
        due("fault()", x.fault(), m.fault());
    }

    private void sheets() {
        int k = near(4);
        int i = near(8);
        int lane = near(3);
        int other = near(4);
        int j = near(8);
        int n = near(6);
        String args = "(" + k + ", " + i + ", " + lane + ", " + other + ", " + j + ", " + n + ")";
        switch (random.nextInt(6)) {
            case 0 -> due("sheet" + args, x.sheet(k, lane, n), m.sheet(k, lane, n));
            case 1 -> due("lose" + args, x.lose(k), m.lose(k));
            case 2 -> {
                int v = random.nextInt();
                due("put" + args, x.put(k, i, v), m.put(k, i, v));
            }
            case 3 -> due("copy" + args, x.copy(k, i, other, j, n), m.copy(k, i, other, j, n));
            case 4 -> due("see" + args, x.see(k, lane, i, n), m.see(k, lane, i, n));
            default -> due("cell" + args, x.cell(k, i, lane), m.cell(k, i, lane));
        }
        due("fault()", x.fault(), m.fault());
    }

    private void readings() {
        if (random.nextInt(3) == 0) {
            int k = near(3);
            due("back(" + k + ")", x.back(k), m.back(k));
        } else {
            int p = near(4);
            int t = near(6);
            // What was so as things are, mostly: other readings soon leave nothing.
            int hours = Math.max(0, m.ofPupil(p, 3)) * random.nextInt(4);
            int v = random.nextInt(4) == 0 ? near(100) : hours;
            due("reading(" + p + ", " + t + ", " + v + ")", x.reading(p, t, v), m.reading(p, t, v));
        }
        for (int i = 0; i < 4; i++) {
            due("wits(" + i + ")", x.wits(i), m.wits(i));
            due("kinds(" + i + ")", x.kinds(i), m.kinds(i));
            due("hards(" + i + ")", x.hards(i), m.hards(i));
        }
    }

    private void changes() {
        int a = near(4);
        int v = near(10);
        switch (random.nextInt(4)) {
            case 0 -> due("ask(" + a + ", " + v + ")", x.ask(a, v), m.ask(a, v));
            case 1 -> due("teach(" + a + ", " + v + ")", x.teach(a, v), m.teach(a, v));
            case 2 -> due("doubt(" + v + ")", x.doubt(v), m.doubt(v));
            default -> due("build(" + a + ")", x.build(a), m.build(a));
        }
    }

    private void questions() {
        int p = near(4);
        int d = near(5);
        int w = near(4);
        boolean so = random.nextBoolean();
        String args = "(" + p + ", " + d + ", " + w + ", " + so + ")";
        switch (random.nextInt(16)) {
            case 0 -> due("ofPupil" + args, x.ofPupil(p, w), m.ofPupil(p, w));
            case 1 -> due("hard" + args, x.hard(d), m.hard(d));
            case 2 -> due("would" + args, x.would(p, d, so), m.would(p, d, so));
            case 3 -> due("stand" + args, x.stand(d), m.stand(d));
            case 4 -> due("bishop()", x.bishop(), m.bishop());
            case 5 -> due("best" + args, x.best(p), m.best(p));
            case 6 -> due("choose" + args, x.choose(p, d), m.choose(p, d));
            case 7 -> due("wits" + args, x.wits(p), m.wits(p));
            case 8 -> due("kinds" + args, x.kinds(p), m.kinds(p));
            case 9 -> due("hards" + args, x.hards(d), m.hards(d));
            case 10 -> due("odds" + args, x.odds(p, w), m.odds(p, w));
            case 11 -> due("tell" + args, x.tell(p), m.tell(p));
            case 12 -> due("cap" + args, x.cap(p), m.cap(p));
            case 13 -> due("as" + args, x.as(p, w), m.as(p, w));
            case 14 -> due("many" + args, x.many(d), m.many(d));
            default -> due("fault()", x.fault(), m.fault());
        }
        due("trace()", x.trace(), m.trace());
    }
}
