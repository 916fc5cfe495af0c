/** Promise 60: a simulation does on a copy what the same calls would do. */
public final class SimulateTest {
    private static final Check CHECK = new Check();

    public static void main(String[] args) {
        RugPunch x = threadedRug();
        CHECK.noRange("simulate(0, 0)", () -> x.simulate(0, 0));
        CHECK.noRange("simulate(0, 61)", () -> x.simulate(0, 61));
        CHECK.noRange("simulate(0, -1)", () -> x.simulate(0, -1));
        long[] seeds = {0, 1, -1, 7, 99, 123456789012345L, Long.MIN_VALUE, Long.MAX_VALUE};
        for (long seed : seeds) {
            for (int m = 1; m <= 60; m++) {
                CHECK.same("simulate(" + seed + ", " + m + ")", x.simulate(seed, m), byCalls(seed, m));
            }
        }
        for (long seed = 1000; seed < 1600; seed++) {
            CHECK.same("simulate(" + seed + ", 60)", x.simulate(seed, 60), byCalls(seed, 60));
        }
        CHECK.same("nothing has changed", x.undo(), 4);
        skippedModuloHundred();
        CHECK.finish("SimulateTest");
    }

    private static void skippedModuloHundred() {
        RugPunch x = new RugPunch();
        Check.write(x, "lrlrlr9(s01lrlr)s02");
        for (int row = 0; row < 12; row++) {
            x.place(12 * row, 0);
            x.thread(row % 5);
            x.runText();
            x.cut();
        }
        CHECK.same("skipped()", x.skipped(), 120);
        CHECK.same("simulate(1, 1)", x.simulate(1, 1), 12000 + 200 + headingBy(1));
        x.unpick(10);
        CHECK.same("simulate(1, 1) with a loop less", x.simulate(1, 1), 11000 + 200 + headingBy(1));
    }

    /** The heading after one turn with a needle that is not threaded. */
    private static int headingBy(long seed) {
        int kind = (int) ((seed * 6364136223846793005L + 1442695040888963407L) >>> 33) % 32;
        return kind >= 17 && kind <= 19 ? 3 : kind >= 20 && kind <= 22 ? 1 : 0;
    }

    private static RugPunch threadedRug() {
        RugPunch x = new RugPunch();
        Check.store(x, 0, "s05r");
        Check.store(x, 1, "3(m0)j02");
        Check.store(x, 2, "c4m1x");
        x.fillPlan(0, 143, 2);
        x.thread(2);
        return x;
    }

    /** The same turns by the calls themselves, on another object. */
    private static int byCalls(long seed, int m) {
        RugPunch twin = threadedRug();
        long number = seed;
        for (int turn = 0; turn < m; turn++) {
            number = number * 6364136223846793005L + 1442695040888963407L;
            try {
                turn(twin, (int) (number >>> 33));
            } catch (IllegalStateException e) {
                continue;
            }
        }
        int loops = 0;
        for (int cell = 0; cell < 144; cell++) {
            loops += twin.loopOf(cell) != -1 ? 1 : 0;
        }
        return 1000 * loops + 10 * (twin.skipped() % 100) + twin.heading();
    }

    private static void turn(RugPunch x, int r) {
        int q = r / 32;
        int kind = r % 32;
        if (kind < 14) {
            x.sew(1 + q % 12);
        } else if (kind < 17) {
            x.jump(1 + q % 3);
        } else if (kind < 20) {
            x.turnLeft();
        } else if (kind < 23) {
            x.turnRight();
        } else if (kind < 26) {
            x.thread(q % 5);
        } else if (kind == 26) {
            if (q % 4 == 0) {
                x.cut();
            }
        } else if (kind == 27) {
            x.ease();
        } else if (kind == 28) {
            x.setHeight(1 + q % 9);
        } else if (kind == 29) {
            x.unpick(q % 144);
        } else if (kind == 30) {
            if (q / 9 % 8 == 0) {
                x.shear(1 + q % 9);
            }
        } else {
            x.run(q % 4);
        }
    }
}
