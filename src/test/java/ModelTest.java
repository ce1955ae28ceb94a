import java.util.Random;

/**
 * Random runs on BoxDesk and on the model beside it, each of 512 calls at most; the seeds are
 * always the same.
 */
public final class ModelTest {
    private static final int MAX = 1073741823;
    private static final int RUNS = 8000;
    /** What is left of the 512 calls is for looking at the registers. */
    private static final int CALLS_OF_STEPS = 440;
    private static final long NOT_MADE = -1L << 40;
    private static final int[] EDGES = {0, 1, -1, MAX, -MAX, MAX - 1, 1 - MAX, MAX + 1, -MAX - 1,
        Integer.MAX_VALUE, Integer.MIN_VALUE, MAX / 2, -MAX / 2, 4000, 100};

    private final Random random;
    private final Checks checks;
    private final int run;
    /** How often of 100 a number is one of the edges. */
    private final int edgy;
    private final int registers;
    private final Desk desk = new Desk();
    private final Model model = new Model();
    private final int[] tally;

    private interface Call {
        int answer();
    }

    private ModelTest(int run, Checks checks, int[] tally) {
        this.run = run;
        this.checks = checks;
        this.tally = tally;
        random = new Random(run);
        edgy = run % 3 == 0 ? 25 : run % 3 == 1 ? 3 : 0;
        registers = 1 + run % 4;
    }

    public static void main(String[] args) {
        Checks checks = new Checks();
        int[] tally = new int[8];
        for (int run = 0; run < RUNS; run++) {
            ModelTest test = new ModelTest(run, checks, tally);
            if (run % 5 == 4) {
                test.nearlyFill();
            }
            while (test.desk.calls() < CALLS_OF_STEPS) {
                test.step(run % 5);
            }
            test.compareAll();
        }
        System.out.println("boxes made " + tally[0] + ", not made " + tally[1] + ", desks full " + tally[2]
                + ", glue set otherwise " + tally[3]);
        checks.yes("the runs make boxes", tally[0] > 10000);
        checks.yes("the runs are refused boxes", tally[1] > 1000);
        checks.yes("the runs fill desks", tally[2] > 1000);
        checks.yes("the runs set glue", tally[3] > 1000);
        checks.end();
    }

    private int number() {
        if (random.nextInt(100) < edgy) {
            return EDGES[random.nextInt(EDGES.length)];
        }
        return random.nextInt(41) - 10;
    }

    private int part() {
        return random.nextInt(10) == 0 ? number() : random.nextInt(9);
    }

    private int register() {
        return random.nextInt(100) < edgy ? random.nextInt(20) - 2 : random.nextInt(registers);
    }

    private int what() {
        return random.nextInt(100) < edgy ? number() : random.nextInt(6);
    }

    private static int bit(boolean b) {
        return b ? 1 : 0;
    }

    private static long outcome(Call call) {
        try {
            return call.answer();
        } catch (IllegalStateException e) {
            return 1L << 40;
        } catch (IllegalArgumentException e) {
            return 2L << 40;
        } catch (UnsupportedOperationException e) {
            return 3L << 40;
        } catch (IndexOutOfBoundsException e) {
            return e.getClass() == IndexOutOfBoundsException.class ? 4L << 40 : 5L << 40;
        }
    }

    private long both(String what, Call onDesk, Call onModel) {
        if (desk.calls() >= Desk.MOST_CALLS) {
            return NOT_MADE;
        }
        long due = outcome(onModel);
        checks.same("run " + run + ": " + what, outcome(onDesk), due);
        return due;
    }

    /** A box of 10 items and one of 100, and copies of them in a list, so that the limit is near. */
    private void nearlyFill() {
        int due = 3900 + random.nextInt(101);
        openStep(false);
        for (int i = 0; i < 9; i++) {
            kernStep(0);
        }
        closeStep(0, 0, 13);
        openStep(false);
        for (int i = 0; i < 9; i++) {
            putStep(13, 0, true);
            kernStep(0);
        }
        closeStep(0, 0, 14);
        openStep(random.nextBoolean());
        while (model.count(1) < due && desk.calls() < CALLS_OF_STEPS) {
            int rest = due - model.count(1);
            if (rest >= 10) {
                putStep(rest >= 100 ? 14 : 13, number(), true);
            } else {
                kernStep(0);
            }
        }
    }

    private void openStep(boolean vertical) {
        both("open", () -> bit(desk.open(vertical)), () -> bit(model.open(vertical)));
    }

    private void kernStep(int width) {
        both("kern", () -> bit(desk.kern(width)), () -> bit(model.kern(width)));
    }

    private void step(int style) {
        int a = number();
        int b = number();
        int c = number();
        int k = register();
        switch (random.nextInt(style == 4 ? 26 : 20)) {
            case 0, 1 -> openStep(random.nextBoolean());
            case 2 -> both("character", () -> bit(desk.character(a, b, c)), () -> bit(model.character(a, b, c)));
            case 3, 4 -> {
                int running = random.nextInt(3) == 0 ? random.nextInt(10) - 1 : 0;
                both("rule", () -> bit(desk.rule(a, b, c, running)), () -> bit(model.rule(a, b, c, running)));
            }
            case 5, 6, 7 -> glueStep(a);
            case 8 -> kernStep(a);
            case 9 -> both("penalty", () -> bit(desk.penalty(a)), () -> bit(model.penalty(a)));
            case 10, 11, 12 -> closeStep(a, b, k);
            case 13 -> putStep(k, a, random.nextBoolean());
            case 14 -> both("unbox", () -> bit(desk.unbox(k)), () -> bit(model.unbox(k)));
            case 15 -> {
                int which = random.nextInt(5) - 1;
                both("size", () -> bit(desk.size(k, which, a)), () -> bit(model.size(k, which, a)));
            }
            case 16 -> {
                int w = what();
                both("about", () -> desk.about(k, w), () -> model.about(k, w));
            }
            case 17, 18 -> {
                int i = random.nextInt(8) - 1;
                int w = what();
                both("item", () -> desk.item(k, i, w), () -> model.item(k, i, w));
            }
            case 19 -> countStep(random.nextInt(5) - 1);
            default -> putStep(k, random.nextInt(3), true);
        }
    }

    private void glueStep(int width) {
        int stretch = part();
        int order = random.nextInt(20) == 0 ? number() : random.nextInt(4);
        int shrink = part();
        both("glue", () -> bit(desk.glue(width, stretch, order, shrink)),
                () -> bit(model.glue(width, stretch, order, shrink)));
    }

    private void closeStep(int amount, int limit, int k) {
        int spec = random.nextInt(30) == 0 ? number() : random.nextInt(3);
        long due = both("close(" + spec + ", " + amount + ", " + limit + ", " + k + ")",
                () -> desk.close(spec, amount, limit, k), () -> model.close(spec, amount, limit, k));
        if (due < 1L << 40) {
            tally[0]++;
            if (random.nextInt(3) == 0) {
                compare(k);
            }
        } else if (due == 3L << 40) {
            tally[1]++;
        }
    }

    private void putStep(int k, int shift, boolean copies) {
        long due = both("put", () -> bit(desk.put(k, shift, copies)), () -> bit(model.put(k, shift, copies)));
        if (due == 0 && copies && model.count(0) > 0 && model.count(1) > 3900) {
            tally[2]++;
        }
        countStep(1);
    }

    private void countStep(int what) {
        both("count", () -> desk.count(what), () -> model.count(what));
    }

    private void compareAll() {
        countStep(0);
        countStep(1);
        for (int k = 0; k < 16; k++) {
            compare(k);
        }
    }

    private void compare(int k) {
        for (int w = 0; w < 6; w++) {
            int what = w;
            both("about " + k + " " + w, () -> desk.about(k, what), () -> model.about(k, what));
        }
        for (int i = 0; i < model.about(k, 4); i++) {
            int at = i;
            for (int w = 0; w < 6; w++) {
                int what = w;
                long due = both("item " + k + " " + i + " " + w,
                        () -> desk.item(k, at, what), () -> model.item(k, at, what));
                if (w == 1 && due != NOT_MADE && model.item(k, i, 0) == 5 && (due > 30 || due < -10)) {
                    tally[3]++;
                }
            }
        }
    }
}
