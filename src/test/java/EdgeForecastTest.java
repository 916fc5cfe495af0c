/** Promises 52 to 62: each border, each empty and each full case, and each refused call, promise by promise. */
public final class EdgeForecastTest {
    private static final Check CHECK = new Check();
    private static final int LEAST = Integer.MIN_VALUE;
    private static final int MOST = Integer.MAX_VALUE;
    private static final int[] NO_COLOURS = {-1, 5, LEAST, MOST};
    private static final int[] NO_SLOTS = {-1, 2, LEAST, MOST};

    public static void main(String[] args) {
        p52WhyNoStitch();
        p53WhyNoMending();
        p54CouldSew();
        p55And56NearestRefused();
        p55And56NearestOfSeveral();
        p55And56NearestFromEachCell();
        p57To59Refused();
        p57To59Answers();
        p57To59ChangeNothing();
        p60SimulateRefused();
        p60SimulateEnds();
        p60SimulateChangesNothing();
        p60EachTurn();
        p60TurnsThatAreLeftOut();
        p60SkippedModuloHundred();
        p61Save();
        p62Restore();
        p62RestoreForgets();
        CHECK.finish("EdgeForecastTest");
    }

    private static void p52WhyNoStitch() {
        RugPunch x = new RugPunch();
        CHECK.same("whyNoStitch() of a new object", x.whyNoStitch(), 1);
        x.thread(0);
        CHECK.same("whyNoStitch() with a thread", x.whyNoStitch(), 0);
        x.sew(12);
        CHECK.same("whyNoStitch() at the border, with a skipped cell", x.whyNoStitch(), 2);
        x.unpick(11);
        CHECK.same("whyNoStitch() at the border, unpicked", x.whyNoStitch(), 0);
        Check.tighten(x, 10);
        x.sew(1);
        CHECK.holds("the needle is at a skipped cell", x.isSkipped(x.needle()));
        CHECK.same("whyNoStitch() at a skipped cell", x.whyNoStitch(), 0);
        RugPunch tight = new RugPunch();
        Check.leave(tight, 0, 11);
        Check.tighten(tight, 10);
        CHECK.same("a loop that would be skipped needs its yarn, too", tight.whyNoStitch(), 3);
        tight.wind(0, 1);
        CHECK.same("and has just enough", tight.whyNoStitch(), 0);
    }

    private static void p53WhyNoMending() {
        for (int cell : new int[] {-1, 144, LEAST, MOST}) {
            CHECK.changesNothing("whyNoMending(" + cell + ")", Check::busy, Check.NO_INDEX, x -> x.whyNoMending(cell));
        }
        RugPunch x = new RugPunch();
        Check.leave(x, 4, 11);
        CHECK.same("no plan, and no colour to look for", x.whyNoMending(0), 1);
        x.fillPlan(0, 143, 4);
        CHECK.same("too little", x.whyNoMending(0), 2);
        CHECK.same("too little, the last cell", x.whyNoMending(143), 2);
        x.wind(4, 1);
        CHECK.same("just enough", x.whyNoMending(143), 0);
        x.setHeight(5);
        CHECK.same("too little for this height", x.whyNoMending(143), 2);
        x.setHeight(1);
        x.mend(143);
        CHECK.same("a right cell", x.whyNoMending(143), 1);
        x.setPlan(143, 0);
        CHECK.same("a wrong cell", x.whyNoMending(143), 1);
        x.unpick(143);
        CHECK.same("an unpicked cell, another cone", x.whyNoMending(143), 0);
        x.wind(4, 100);
        Check.tighten(x, 10);
        int cell = x.needle();
        x.sew(1);
        CHECK.holds("a skipped cell", x.isSkipped(cell));
        CHECK.same("a skipped cell is missing", x.whyNoMending(cell), 0);
        x.setPlan(cell, RugPunch.NONE);
        CHECK.same("a skipped cell without a plan is not", x.whyNoMending(cell), 1);
    }

    private static void p54CouldSew() {
        for (int cell = 0; cell < 144; cell++) {
            int[] due = {12 - cell % 12, 12 - cell / 12, cell % 12 + 1, cell / 12 + 1};
            for (int heading = 0; heading < 4; heading++) {
                RugPunch x = new RugPunch();
                x.place(cell, heading);
                CHECK.same("couldSew() without a thread", x.couldSew(), 0);
                x.thread(3);
                CHECK.same("couldSew() at " + cell + " in " + heading, x.couldSew(), due[heading]);
                CHECK.same("needle() is where it was", x.needle(), cell);
                CHECK.same("sew(12) does the same", x.sew(12), due[heading]);
                // Of eleven stitches the last one is skipped, and can be sewn again.
                CHECK.same("couldSew() behind it", x.couldSew(), due[heading] == 11 ? 1 : 0);
            }
        }
        for (int left = 0; left <= 40; left++) {
            RugPunch x = new RugPunch();
            Check.leave(x, 0, left);
            CHECK.same("couldSew() with " + left, x.couldSew(), left / 12);
        }
        RugPunch skip = new RugPunch();
        Check.leave(skip, 0, 28);
        Check.tighten(skip, 16);
        CHECK.same("a skipped one draws less", skip.couldSew(), 3);
        CHECK.same("nothing is drawn", skip.coneOf(0), 28);
        CHECK.same("tension() stays", skip.tension(), 16);
        CHECK.same("skipped() stays", skip.skipped(), 0);
    }

    private static void p55And56NearestRefused() {
        for (int colour : NO_COLOURS) {
            CHECK.changesNothing("nearestByRings", Check::busy, Check.NO_INDEX, x -> x.nearestByRings(colour));
            CHECK.changesNothing("nearestByCells", Check::busy, Check.NO_INDEX, x -> x.nearestByCells(colour));
        }
        RugPunch x = new RugPunch();
        for (int colour = 0; colour < 5; colour++) {
            nearest(x, colour, RugPunch.NONE);
        }
        x.fillPlan(0, 143, 0);
        nearest(x, 0, 0);
        nearest(x, 1, RugPunch.NONE);
        x.fillPlan(1, 143, RugPunch.NONE);
        x.fillPlan(0, 132, RugPunch.NONE);
        x.setPlan(0, 0);
        x.mend(0);
        nearest(x, 0, RugPunch.NONE);
        x.setPlan(0, 4);
        nearest(x, 4, RugPunch.NONE);
        x.unpick(0);
        nearest(x, 4, 0);
        x.thread(4);
        Check.tighten(x, 12);
        x.sew(1);
        nearest(x, 4, 0);
    }

    private static void nearest(RugPunch x, int colour, int due) {
        CHECK.same("nearestByRings(" + colour + ") from " + x.needle(), x.nearestByRings(colour), due);
        CHECK.same("nearestByCells(" + colour + ") from " + x.needle(), x.nearestByCells(colour), due);
    }

    /** All cells of a ring are as near: the lowest number of those that are left is due. */
    private static void p55And56NearestOfSeveral() {
        for (int ring = 0; ring <= 5; ring++) {
            RugPunch x = new RugPunch();
            x.place(66, 0);
            for (int cell = 0; cell < 144; cell++) {
                int away = Math.abs(cell % 12 - 6) + Math.abs(cell / 12 - 5);
                if (away >= ring) {
                    x.setPlan(cell, 2);
                }
            }
            for (int cell = 0; cell < 144; cell++) {
                int away = Math.abs(cell % 12 - 6) + Math.abs(cell / 12 - 5);
                if (away == ring) {
                    nearest(x, 2, cell);
                    x.setPlan(cell, RugPunch.NONE);
                }
            }
        }
        RugPunch row = new RugPunch();
        row.place(11, 0);
        row.setPlan(12, 1);
        row.setPlan(35, 1);
        nearest(row, 1, 35);
        row.setPlan(0, 1);
        nearest(row, 1, 35);
    }

    private static void p55And56NearestFromEachCell() {
        int[] corners = {0, 11, 132, 143};
        for (int corner : corners) {
            RugPunch x = new RugPunch();
            x.setPlan(corner, 3);
            for (int cell = 0; cell < 144; cell++) {
                x.place(cell, 0);
                nearest(x, 3, corner);
            }
        }
        RugPunch both = new RugPunch();
        both.setPlan(0, 0);
        both.setPlan(143, 0);
        for (int cell = 0; cell < 144; cell++) {
            both.place(cell, 0);
            nearest(both, 0, cell % 12 + cell / 12 <= 11 ? 0 : 143);
        }
    }

    private static void p57To59Refused() {
        String[] texts = {"", "s", "s13", "2(l", "l l", "m4"};
        for (String text : texts) {
            CHECK.changesNothing("loopsBy() of '" + text + "'", x -> start(x, text), Check.NO_STATE, RugPunch::loopsBy);
            CHECK.changesNothing("needleBy() of '" + text + "'", x -> start(x, text), Check.NO_STATE, RugPunch::needleBy);
            CHECK.changesNothing("yarnBy(0) of '" + text + "'", x -> start(x, text), Check.NO_STATE, x -> x.yarnBy(0));
            for (int colour : NO_COLOURS) {
                CHECK.changesNothing("yarnBy(" + colour + ") of '" + text + "'", x -> start(x, text), Check.NO_INDEX,
                        x -> x.yarnBy(colour));
            }
        }
        for (int colour : NO_COLOURS) {
            CHECK.changesNothing("yarnBy(" + colour + ")", Check::busy, Check.NO_INDEX, x -> x.yarnBy(colour));
        }
    }

    private static void start(RugPunch x, String text) {
        Check.busy(x);
        Check.write(x, text);
    }

    private static void p57To59Answers() {
        by("l", 0, 0, 0, 0);
        by("m0m3", 0, 0, 0, 0);
        by("c0s12", 11, 11, 20 + 11 * 12 + 4, 0);
        by("c0s12s12rrs12", 11, 11, 20 + 11 * 12 + 4, 0);
        by("c0s01c4j01c0", 1, 2, 20 + 12 + 20 + 20, 20 + 8 + 20);
        by("c0ex", 0, 0, 50, 0);
        by("j12", 0, 11, 0, 0);
        by("rj12lj12", 0, 143, 0, 0);
        RugPunch skip = new RugPunch();
        skip.thread(0);
        Check.tighten(skip, 16);
        Check.write(skip, "s01");
        CHECK.same("a skipped loop is none", skip.loopsBy(), 0);
        CHECK.same("but draws", skip.yarnBy(0), 4);
        CHECK.same("and the needle goes on", skip.needleBy(), 1);
        RugPunch low = new RugPunch();
        Check.leave(low, 4, 25);
        Check.write(low, "s12j03xc4");
        CHECK.same("loopsBy() with little yarn", low.loopsBy(), 2);
        CHECK.same("needleBy() with little yarn", low.needleBy(), 5);
        CHECK.same("yarnBy(4) is what the cone has", low.yarnBy(4), 25);
        RugPunch cell = new RugPunch();
        cell.thread(0);
        cell.sew(11);
        cell.turnRight();
        cell.turnRight();
        cell.jump(1);
        Check.write(cell, "c1s12");
        CHECK.same("needle()", cell.needle(), 10);
        CHECK.same("a skipped cell becomes a loop", cell.loopsBy(), 1);
        CHECK.holds("and is skipped still", cell.isSkipped(10));
    }

    private static void by(String text, int loops, int needle, int yarn, int last) {
        RugPunch x = new RugPunch();
        Check.write(x, text);
        CHECK.same("loopsBy() of " + text, x.loopsBy(), loops);
        CHECK.same("needleBy() of " + text, x.needleBy(), needle);
        CHECK.same("yarnBy(0) of " + text, x.yarnBy(0), yarn);
        CHECK.same("yarnBy(4) of " + text, x.yarnBy(4), last);
        CHECK.same("needle() is where it was", x.needle(), 0);
        RugPunch first = new RugPunch();
        Check.write(first, text);
        CHECK.same("yarnBy(0) ahead of the others", first.yarnBy(0), yarn);
        RugPunch second = new RugPunch();
        Check.write(second, text);
        CHECK.same("needleBy() ahead of the others", second.needleBy(), needle);
        RugPunch third = new RugPunch();
        Check.write(third, text);
        CHECK.same("yarnBy(4) ahead of the others", third.yarnBy(4), last);
        x.runText();
        CHECK.same("needle() by " + text, x.needle(), needle);
        CHECK.same("drawnByRug(0) by " + text, x.drawnByRug(0), yarn);
        CHECK.same("drawnByRug(4) by " + text, x.drawnByRug(4), last);
    }

    private static void p57To59ChangeNothing() {
        RugPunch x = new RugPunch();
        RugPunch twin = new RugPunch();
        Check.busy(x);
        Check.busy(twin);
        for (int colour = 0; colour < 5; colour++) {
            x.loopsBy();
            x.needleBy();
            x.yarnBy(colour);
            x.nearestByRings(colour);
            x.nearestByCells(colour);
        }
        for (int cell = 0; cell < 144; cell++) {
            x.whyNoMending(cell);
        }
        x.whyNoStitch();
        x.couldSew();
        CHECK.holds("asking changes nothing", Check.everything(x).equals(Check.everything(twin)));
    }

    private static void p60SimulateRefused() {
        for (int m : new int[] {-1, 0, 61, LEAST, MOST}) {
            CHECK.changesNothing("simulate(1, " + m + ")", Check::busy, Check.NO_ARGUMENT, x -> x.simulate(1, m));
        }
    }

    private static void p60SimulateEnds() {
        RugPunch x = new RugPunch();
        long[] seeds = {0, -1, 1, Long.MIN_VALUE, Long.MAX_VALUE, LEAST, MOST};
        for (long seed : seeds) {
            for (int m : new int[] {1, 2, 59, 60}) {
                Model model = new Model();
                CHECK.same("simulate(" + seed + ", " + m + ") of a new object", x.simulate(seed, m),
                        model.answer("simulate", seed, m));
            }
        }
        RugPunch full = new RugPunch();
        full.fillPlan(0, 143, 0);
        for (int cell = 0; cell < 144; cell++) {
            full.mend(cell);
        }
        CHECK.same("1000 for each loop", full.simulate(seedFor(3, 0), 1), 144000);
        CHECK.same("a turn that would throw is left out", full.simulate(seedFor(27, 0), 1), 144000);
        CHECK.same("the heading at the end", full.simulate(seedFor(18, 0), 1), 144003);
        CHECK.same("the other heading", full.simulate(seedFor(20, 0), 1), 144001);
        CHECK.same("a loop less", full.simulate(seedFor(29, 143), 1), 143000);
    }

    private static void p60SimulateChangesNothing() {
        RugPunch x = new RugPunch();
        RugPunch twin = new RugPunch();
        Check.busy(x);
        Check.busy(twin);
        for (int m = 1; m <= 60; m++) {
            x.simulate(m * 77L, m);
        }
        CHECK.same("the same again", x.simulate(12, 60), x.simulate(12, 60));
        CHECK.holds("simulating changes nothing", Check.everything(x).equals(Check.everything(twin)));
    }

    /** A seed whose first turn has this kind and this q: the step of x is turned round. */
    private static long seedFor(int kind, int q) {
        long next = (32L * q + kind) << 33;
        return (next - 1442695040888963407L) * inverse();
    }

    private static long inverse() {
        long inverse = 1;
        for (int round = 0; round < 7; round++) {
            inverse *= 2 - 6364136223846793005L * inverse;
        }
        return inverse;
    }

    /** Each kind of turn, with each small q, as a first turn: what the same call gives. */
    private static void p60EachTurn() {
        for (int kind = 0; kind < 32; kind++) {
            for (int q = 0; q < 150; q++) {
                RugPunch x = new RugPunch();
                Model model = new Model();
                both(x, model, "fillPlan", 24, 143, 2);
                both(x, model, "mend", 37);
                both(x, model, "mend", 143);
                for (char sign : "s03r".toCharArray()) {
                    both(x, model, "append", sign);
                }
                both(x, model, "store", 1);
                both(x, model, "place", 36 + q % 12, q % 4);
                if (q % 3 != 0) {
                    both(x, model, "thread", 2);
                }
                long seed = seedFor(kind, q);
                for (int m = 1; m <= 3; m++) {
                    CHECK.same("simulate with " + kind + " and " + q, x.simulate(seed, m), model.answer("simulate", seed, m));
                }
            }
        }
    }

    /** A seed whose first turn has the kind and the q, and whose turns behind it have the next kinds. */
    private static long seedFor(int kind, int q, int... next) {
        for (long low = 0; low < 10000000L; low++) {
            long seed = seedFor(kind, q) + low * inverse();
            long x = seed * 6364136223846793005L + 1442695040888963407L;
            boolean fits = true;
            for (int i = 0; i < next.length && fits; i++) {
                x = x * 6364136223846793005L + 1442695040888963407L;
                fits = (int) (x >>> 33) % 32 == next[i];
            }
            if (fits) {
                return seed;
            }
        }
        throw new IllegalStateException("there is no such seed");
    }

    private static void p60TurnsThatAreLeftOut() {
        RugPunch x = new RugPunch();
        Check.leave(x, 4, 19);
        x.cut();
        for (int colour = 0; colour < 5; colour++) {
            CHECK.same("thread(" + colour + "), and a stitch", x.simulate(seedFor(23, colour, 0), 2) >= 1000 ? 1 : 0,
                    colour < 4 ? 1 : 0);
        }
        RugPunch tight = new RugPunch();
        tight.thread(0);
        Check.tighten(tight, 16);
        CHECK.same("a stitch, not eased, is skipped", tight.simulate(seedFor(0, 0), 1), 10);
        CHECK.same("a stitch, eased, is not", tight.simulate(seedFor(27, 5, 0), 2) % 1000 / 10, 0);
        CHECK.same("cut(), and no stitch", tight.simulate(seedFor(26, 4, 0), 2), 0);
        CHECK.same("no cut(), and a stitch", tight.simulate(seedFor(26, 5, 0), 2) % 1000 / 10, 1);
        RugPunch no = new RugPunch();
        CHECK.same("ease() without a thread is left out", no.simulate(seedFor(27, 0, 18), 2), 3);
        CHECK.same("cut() without a thread is left out", no.simulate(seedFor(26, 0, 18), 2), 3);
        CHECK.same("sew without a thread is left out", no.simulate(seedFor(5, 0, 18), 2), 3);
        CHECK.same("unpick of an empty cell is left out", no.simulate(seedFor(29, 0, 18), 2), 3);
        CHECK.same("run without a motif is left out", no.simulate(seedFor(31, 0, 18), 2), 3);
    }

    private static void p60SkippedModuloHundred() {
        RugPunch x = new RugPunch();
        int skipped = 0;
        Check.write(x, "lrlrlrs01");
        for (int cell = 0; cell < 102; cell++) {
            if (cell >= 98) {
                CHECK.same("simulate with " + skipped + " skipped cells", x.simulate(seedFor(18, 0), 1),
                        10 * (skipped % 100) + 3);
            }
            x.wind(0, 40);
            x.place(cell, 0);
            x.thread(0);
            x.runText();
            x.cut();
            skipped++;
        }
        CHECK.same("skipped()", x.skipped(), 102);
    }

    private static void both(RugPunch x, Model model, String name, int... with) {
        long[] arguments = new long[with.length];
        for (int i = 0; i < with.length; i++) {
            arguments[i] = with[i];
        }
        double due = model.answer(name, arguments);
        int got = switch (name) {
            case "fillPlan" -> x.fillPlan(with[0], with[1], with[2]);
            case "mend" -> x.mend(with[0]);
            case "append" -> x.append(with[0]);
            case "store" -> x.store(with[0]);
            case "place" -> x.place(with[0], with[1]);
            default -> x.thread(with[0]);
        };
        CHECK.same(name, got, due);
    }

    private static void p61Save() {
        for (int slot : NO_SLOTS) {
            CHECK.changesNothing("save(" + slot + ")", Check::busy, Check.NO_INDEX, x -> x.save(slot));
        }
        RugPunch x = new RugPunch();
        CHECK.same("save(0) of an empty canvas", x.save(0), 0);
        x.fillPlan(0, 143, 0);
        for (int cell = 0; cell < 144; cell++) {
            x.mend(cell);
        }
        CHECK.same("save(1) of a full canvas", x.save(1), 144);
        CHECK.same("save is no action", x.undo(), 13);
        CHECK.same("restore(0)", x.restore(0), 0);
        CHECK.same("restore(1)", x.restore(1), 144);
        x.unpick(0);
        CHECK.same("save(1) in place of it", x.save(1), 143);
        CHECK.same("restore(1) of the new one", x.restore(1), 143);
        CHECK.same("restore(0) of the other one", x.restore(0), 0);
        x.thread(0);
        Check.tighten(x, 10);
        x.sew(1);
        CHECK.same("a skipped cell is no loop", x.save(0), 0);
        CHECK.same("nor is it behind restore", x.restore(0), 0);
        CHECK.same("but is skipped", x.skipped(), 1);
    }

    private static void p62Restore() {
        for (int slot : NO_SLOTS) {
            CHECK.changesNothing("restore(" + slot + ")", Check::busy, Check.NO_INDEX, x -> x.restore(slot));
        }
        CHECK.changesNothing("restore(1) of nothing", Check::busy, Check.NO_STATE, x -> x.restore(1));
        CHECK.changesNothing("restore(0) of nothing", x -> x.turnLeft(), Check.NO_STATE, x -> x.restore(0));
        CHECK.changesNothing("restore(0) when the slot 1 is saved", x -> {
            x.turnLeft();
            x.save(1);
        }, Check.NO_STATE, x -> x.restore(0));
        RugPunch x = new RugPunch();
        Check.busy(x);
        String due = Check.picture(x);
        x.save(1);
        for (int time = 0; time < 3; time++) {
            x.shear(1);
            x.unpick(0);
            x.thread(4);
            x.store(2);
            x.fillPlan(0, 143, 3);
            CHECK.same("restore(1)", x.restore(1), 4);
            CHECK.holds("the save slot keeps it", Check.picture(x).equals(due));
        }
        CHECK.same("the text stays", x.clearText(), 10);
    }

    private static void p62RestoreForgets() {
        RugPunch x = new RugPunch();
        x.save(0);
        x.restore(0);
        CHECK.noState("undo() behind restore of the same", x::undo);
        for (int actions = 1; actions <= 20; actions++) {
            for (int i = 0; i < actions; i++) {
                x.wind(0, 1);
            }
            x.restore(0);
            CHECK.noState("undo() behind " + actions + " and restore", x::undo);
            CHECK.same("coneOf(0)", x.coneOf(0), 8000);
            x.turnLeft();
            CHECK.same("undo() of what is behind restore", x.undo(), 0);
            CHECK.same("heading()", x.heading(), 0);
        }
        x.turnLeft();
        x.save(1);
        x.undo();
        CHECK.same("undo() does not change the slot", x.restore(1) + x.heading(), 3);
    }
}
