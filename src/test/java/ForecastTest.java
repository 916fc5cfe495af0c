/** Promises 52 and 54 to 59: reasons, and what would be; none of these calls changes anything. */
public final class ForecastTest {
    private static final Check CHECK = new Check();

    public static void main(String[] args) {
        whyNoStitch();
        couldSew();
        nearest();
        nearestEverywhere();
        byText();
        changesNothing();
        CHECK.finish("ForecastTest");
    }

    private static void whyNoStitch() {
        RugPunch x = new RugPunch();
        CHECK.same("not threaded", x.whyNoStitch(), 1);
        x.setPlan(0, 1);
        x.mend(0);
        CHECK.same("not threaded is the first reason", x.whyNoStitch(), 1);
        x.thread(0);
        CHECK.same("a loop", x.whyNoStitch(), 2);
        Check.write(x, "9(eeeeeeeeee)9(eeeeeeeeee)9(eeeeeeeeee)9(eeeeeeeeee)ee");
        x.runText();
        x.runText();
        x.runText();
        CHECK.same("a loop comes before too little yarn", x.whyNoStitch(), 2);
        x.jump(1);
        CHECK.same("too little yarn", x.whyNoStitch(), 3);
        x.wind(0, 11);
        CHECK.same("still too little", x.whyNoStitch(), 3);
        x.wind(0, 1);
        CHECK.same("just enough", x.whyNoStitch(), 0);
    }

    private static void couldSew() {
        RugPunch x = new RugPunch();
        CHECK.same("without a thread", x.couldSew(), 0);
        x.thread(0);
        CHECK.same("a row", x.couldSew(), 12);
        x.jump(4);
        CHECK.same("the rest of a row", x.couldSew(), 8);
        x.turnRight();
        CHECK.same("a column", x.couldSew(), 12);
        x.turnRight();
        CHECK.same("back to the border", x.couldSew(), 5);
        x.setPlan(2, 1);
        x.mend(2);
        CHECK.same("up to a loop", x.couldSew(), 2);
        x.setPlan(4, 1);
        x.mend(4);
        CHECK.same("at a loop", x.couldSew(), 0);
        RugPunch y = new RugPunch();
        y.thread(3);
        Check.write(y, "9(eeeeeeeeee)9(eeeeeeeeee)9(eeeeeeeeee)9(eeeeeeeeee)ee");
        y.runText();
        y.runText();
        y.runText();
        y.wind(3, 50);
        CHECK.same("till the yarn ends", y.couldSew(), 4);
        for (int i = 0; i < 4; i++) {
            y.turnLeft();
        }
        CHECK.same("tension() with 8", y.tension(), 8);
        CHECK.same("till the yarn ends, one skipped", y.couldSew(), 4);
        y.wind(3, 2);
        CHECK.same("two loops, a skipped one, two loops", y.couldSew(), 5);
    }

    private static void nearest() {
        RugPunch x = new RugPunch();
        sameNearest(x, 0, -1);
        CHECK.noCell("nearestByRings(5)", () -> x.nearestByRings(5));
        CHECK.noCell("nearestByRings(-1)", () -> x.nearestByRings(-1));
        CHECK.noCell("nearestByCells(5)", () -> x.nearestByCells(5));
        CHECK.noCell("nearestByCells(-1)", () -> x.nearestByCells(-1));
        x.setPlan(143, 0);
        sameNearest(x, 0, 143);
        x.place(66, 0);
        x.setPlan(78, 1);
        x.setPlan(67, 1);
        sameNearest(x, 1, 67);
        x.setPlan(65, 1);
        sameNearest(x, 1, 65);
        x.setPlan(54, 1);
        sameNearest(x, 1, 54);
        x.setPlan(66, 1);
        sameNearest(x, 1, 66);
        x.mend(66);
        sameNearest(x, 1, 54);
        x.setPlan(54, 2);
        sameNearest(x, 1, 65);
        sameNearest(x, 2, 54);
        x.setPlan(66, 2);
        sameNearest(x, 2, 54);
        x.place(11, 0);
        x.setPlan(12, 3);
        x.setPlan(22, 3);
        sameNearest(x, 3, 22);
        x.place(143, 0);
        x.setPlan(0, 4);
        sameNearest(x, 4, 0);
    }

    private static void nearestEverywhere() {
        RugPunch x = new RugPunch();
        for (int cell = 0; cell < 144; cell += 19) {
            x.setPlan(cell, 2);
        }
        for (int cell = 0; cell < 144; cell++) {
            x.place(cell, 0);
            CHECK.same("nearest from " + cell, x.nearestByRings(2), x.nearestByCells(2));
        }
    }

    private static void sameNearest(RugPunch x, int colour, int due) {
        CHECK.same("nearestByRings", x.nearestByRings(colour), due);
        CHECK.same("nearestByCells", x.nearestByCells(colour), due);
    }

    private static void byText() {
        RugPunch x = new RugPunch();
        CHECK.noState("loopsBy() without a text", x::loopsBy);
        CHECK.noState("needleBy() without a text", x::needleBy);
        CHECK.noState("yarnBy(0) without a text", () -> x.yarnBy(0));
        CHECK.noCell("yarnBy(5) without a text", () -> x.yarnBy(5));
        CHECK.noCell("yarnBy(-1) without a text", () -> x.yarnBy(-1));
        Check.write(x, "c1s12rj01rc2s03ex");
        CHECK.same("loopsBy()", x.loopsBy(), 11 + 3);
        CHECK.same("needleBy()", x.needleBy(), 20);
        CHECK.same("yarnBy(1)", x.yarnBy(1), 20 + 11 * 12 + 4 + 8 + 20);
        CHECK.same("yarnBy(2)", x.yarnBy(2), 20 + 3 * 12 + 10 + 20);
        CHECK.same("yarnBy(0)", x.yarnBy(0), 0);
        CHECK.same("needleBy() alone", forecast(0), 3);
        CHECK.same("loopsBy() alone", forecast(1), 3);
        CHECK.same("yarnBy(1) alone", forecast(2), 56);
        x.runText();
        CHECK.same("loops by runText()", (long) (x.density() * 144f + 0.5f), 14);
        CHECK.same("needle() by runText()", x.needle(), 20);
        CHECK.same("drawnByCone(1) by runText()", x.drawnByCone(1), 184);
        CHECK.same("drawnByCone(2) by runText()", x.drawnByCone(2), 86);
        Check.write(x, "l");
        CHECK.same("loopsBy() of what is to come", x.loopsBy(), 0);
        CHECK.same("yarnBy(1) of what is to come", x.yarnBy(1), 0);
        CHECK.same("needleBy() of what is to come", x.needleBy(), 20);
        Check.store(x, 0, "c3s02");
        Check.write(x, "m0");
        CHECK.same("loopsBy() with a motif", x.loopsBy(), 2);
        CHECK.same("yarnBy(3) with a motif", x.yarnBy(3), 44);
    }

    /** One of the three on a new object, with none of the others ahead of it. */
    private static int forecast(int which) {
        RugPunch x = new RugPunch();
        Check.write(x, "c1s03");
        return which == 0 ? x.needleBy() : which == 1 ? x.loopsBy() : x.yarnBy(1);
    }

    private static void changesNothing() {
        RugPunch x = new RugPunch();
        x.fillPlan(0, 60, 2);
        Check.store(x, 1, "c2s04rj02");
        x.run(1);
        Check.write(x, "m1s12h9ex");
        String before = Check.picture(x);
        x.whyNoStitch();
        x.whyNoMending(40);
        x.couldSew();
        x.nearestByRings(2);
        x.nearestByCells(2);
        x.loopsBy();
        x.needleBy();
        x.yarnBy(2);
        x.simulate(5, 60);
        x.areasBySpreading(2);
        x.areasByJoining(2);
        CHECK.holds("asking changes nothing", Check.picture(x).equals(before));
        CHECK.same("no state is remembered by asking", x.undo(), 2);
    }
}
