/** Promises 24 to 30 and 44: cones, where yarn went, knots, and cones that run out. */
public final class YarnTest {
    private static final Check CHECK = new Check();

    public static void main(String[] args) {
        colours();
        wind();
        whereYarnWent();
        neededFor();
        knotInLoop();
        knotInSkip();
        knotInJump();
        noKnotByHand();
        almostEmptyCone();
        CHECK.finish("YarnTest");
    }

    private static void colours() {
        RugPunch x = new RugPunch();
        int[] none = {-1, 5, Integer.MIN_VALUE, Integer.MAX_VALUE};
        for (int colour : none) {
            CHECK.noCell("coneOf", () -> x.coneOf(colour));
            CHECK.noCell("drawnByCone", () -> x.drawnByCone(colour));
            CHECK.noCell("drawnByRug", () -> x.drawnByRug(colour));
            CHECK.noCell("wasteOf", () -> x.wasteOf(colour));
            CHECK.noCell("neededFor", () -> x.neededFor(colour));
            CHECK.noCell("untilKnot", () -> x.untilKnot(colour));
        }
    }

    private static void wind() {
        RugPunch x = new RugPunch();
        CHECK.same("wind(0, 1)", x.wind(0, 1), 8001);
        CHECK.same("wind(0, 9999)", x.wind(0, 9999), 18000);
        CHECK.noState("wind(0, 2001)", () -> x.wind(0, 2001));
        CHECK.same("wind(0, 2000)", x.wind(0, 2000), 20000);
        CHECK.noState("wind(0, 1) on a full cone", () -> x.wind(0, 1));
        CHECK.noRange("wind(0, 10000) on a full cone", () -> x.wind(0, 10000));
        CHECK.noRange("wind(1, 0)", () -> x.wind(1, 0));
        CHECK.noRange("wind(1, -1)", () -> x.wind(1, -1));
        CHECK.noCell("wind(5, 0)", () -> x.wind(5, 0));
        CHECK.noCell("wind(-1, 1)", () -> x.wind(-1, 1));
        CHECK.same("what is put onto a cone is not drawn", x.drawnByCone(0), 0);
        CHECK.same("another cone", x.coneOf(1), 8000);
        x.thread(0);
        CHECK.same("drawnByCone(0)", x.drawnByCone(0), 20);
        CHECK.same("coneOf(0)", x.coneOf(0), 19980);
    }

    private static void whereYarnWent() {
        RugPunch x = new RugPunch();
        x.thread(1);
        sameDrawn(x, 1, 20, 0);
        x.sew(10);
        sameDrawn(x, 1, 140, 0);
        x.sew(1);
        sameDrawn(x, 1, 144, 0);
        x.turnRight();
        x.jump(2);
        sameDrawn(x, 1, 160, 0);
        x.ease();
        sameDrawn(x, 1, 170, 10);
        x.unpick(0);
        sameDrawn(x, 1, 170, 22);
        x.shear(3);
        sameDrawn(x, 1, 170, 40);
        x.thread(2);
        sameDrawn(x, 1, 190, 40);
        sameDrawn(x, 2, 20, 0);
        x.setPlan(0, 1);
        x.mend(0);
        sameDrawn(x, 1, 202, 40);
        sameDrawn(x, 0, 0, 0);
    }

    private static void sameDrawn(RugPunch x, int colour, int drawn, int waste) {
        CHECK.same("drawnByCone", x.drawnByCone(colour), drawn);
        CHECK.same("drawnByRug", x.drawnByRug(colour), drawn);
        CHECK.same("wasteOf", x.wasteOf(colour), waste);
        CHECK.same("coneOf", x.coneOf(colour), 8000 - drawn);
        CHECK.same("untilKnot", x.untilKnot(colour), 1000 - drawn);
    }

    private static void neededFor() {
        RugPunch x = new RugPunch();
        CHECK.same("neededFor(0) without a plan", x.neededFor(0), 0);
        x.fillPlan(0, 11, 0);
        x.fillPlan(12, 13, 1);
        CHECK.same("neededFor(0)", x.neededFor(0), 12 * 12);
        CHECK.same("neededFor(1)", x.neededFor(1), 2 * 12);
        x.setHeight(9);
        CHECK.same("neededFor(1) with the height 9", x.neededFor(1), 2 * 22);
        x.setHeight(1);
        x.thread(3);
        x.sew(11);
        CHECK.same("neededFor(0), a skipped cell among the missing", x.neededFor(0), 2 * 6);
    }

    /** Eases till the cone has given so much; a new object with the colour 0 threaded. */
    private static RugPunch drawnSoFar(int millimetres) {
        RugPunch x = new RugPunch();
        x.thread(0);
        while (x.drawnByCone(0) < millimetres) {
            x.ease();
        }
        return x;
    }

    private static void knotInLoop() {
        RugPunch x = drawnSoFar(980);
        CHECK.same("untilKnot(0)", x.untilKnot(0), 20);
        x.sew(1);
        CHECK.same("untilKnot(0) with 992", x.untilKnot(0), 8);
        CHECK.same("tension() without a knot", x.tension(), 1);
        CHECK.same("knots() before", x.knots(), 0);
        x.setHeight(2);
        x.sew(1);
        CHECK.same("with 1000 the knot comes", x.knots(), 1);
        CHECK.same("tension() with a knot", x.tension(), 6);
        CHECK.same("untilKnot(0) with 1000", x.untilKnot(0), 1000);
        RugPunch high = drawnSoFar(990);
        high.setHeight(9);
        high.sew(1);
        CHECK.same("tension() with a high loop and a knot", high.tension(), 6);
        RugPunch second = drawnSoFar(1990);
        second.sew(1);
        CHECK.same("a knot at two thousand", second.knots(), 1);
    }

    private static void knotInSkip() {
        RugPunch x = drawnSoFar(1000 - 10);
        x.turnLeft();
        x.turnLeft();
        x.turnLeft();
        x.turnLeft();
        x.setHeight(1);
        x.sew(1);
        CHECK.same("drawn", x.drawnByCone(0), 996);
        CHECK.same("tension() before", x.tension(), 9);
        x.turnLeft();
        x.sew(1);
        CHECK.same("the loop is skipped", x.skipped(), 1);
        CHECK.same("tension() with a knot in a skipped loop", x.tension(), 6);
        CHECK.same("knots()", x.knots(), 1);
        CHECK.same("drawn to the thousand", x.drawnByCone(0), 1000);
    }

    private static void knotInJump() {
        RugPunch x = drawnSoFar(990);
        CHECK.same("jump(3)", x.jump(3), 3);
        CHECK.same("tension() with a knot in a float", x.tension(), 7);
        CHECK.same("knots()", x.knots(), 1);
    }

    private static void noKnotByHand() {
        RugPunch x = drawnSoFar(990);
        x.setPlan(100, 0);
        x.mend(100);
        CHECK.same("drawn over the thousand by hand", x.drawnByCone(0), 1002);
        CHECK.same("no knot by mending", x.knots(), 0);
        CHECK.same("tension()", x.tension(), 0);
        CHECK.same("untilKnot(0)", x.untilKnot(0), 998);
        RugPunch y = drawnSoFar(1000);
        CHECK.same("no knot by easing", y.knots(), 0);
        RugPunch z = drawnSoFar(990);
        z.cut();
        CHECK.same("no knot by an end", z.knots(), 0);
        CHECK.same("tension() after an end", z.tension(), 0);
        RugPunch w = drawnSoFar(970);
        w.thread(0);
        CHECK.same("no knot by threading", w.knots(), 0);
        CHECK.same("drawn by threading", w.drawnByCone(0), 1010);
    }

    /** A new object whose cone 0 has so much left (a multiple of 10), with the colour 0 threaded. */
    private static RugPunch leftOver(int millimetres) {
        RugPunch x = new RugPunch();
        Check.store(x, 0, "9(eeeeeeeeee)eeeeeeee");
        x.thread(0);
        while (x.coneOf(0) - 980 >= millimetres) {
            x.run(0);
        }
        while (x.coneOf(0) > millimetres) {
            x.ease();
        }
        return x;
    }

    private static void almostEmptyCone() {
        RugPunch x = leftOver(20);
        CHECK.same("coneOf(0)", x.coneOf(0), 20);
        x.setHeight(9);
        CHECK.same("whyNoStitch() for want of yarn", x.whyNoStitch(), 3);
        CHECK.noState("sew(1) for want of yarn", () -> x.sew(1));
        x.setHeight(8);
        CHECK.same("just enough", x.whyNoStitch(), 0);
        CHECK.same("thread(0): cut, and no end is left", x.thread(0), 0);
        CHECK.same("drawnByRug(0)", x.drawnByRug(0), 8000);
        CHECK.same("threaded() all the same", x.threaded(), 0);
        CHECK.same("jump(2) without yarn", x.jump(2), 2);
        CHECK.same("tension() all the same", x.tension(), 2);
        CHECK.same("ease() without yarn", x.ease(), 2);
        CHECK.same("cut() without yarn", x.cut(), 0);
        CHECK.same("drawnByCone(0)", x.drawnByCone(0), 8000);
        CHECK.same("drawnByRug(0) at the end", x.drawnByRug(0), 8000);
        CHECK.noState("thread(0) without yarn", () -> x.thread(0));
        RugPunch y = leftOver(30);
        CHECK.same("thread(0): cut, and 10 are left for an end", y.thread(0), 0);
        CHECK.same("drawnByRug(0) with a short end", y.drawnByRug(0), 8000);
        RugPunch z = leftOver(10);
        CHECK.same("jump(2): 8 and 2", z.jump(2), 2);
        CHECK.same("drawnByRug(0) with a short float", z.drawnByRug(0), 8000);
        CHECK.same("the knot by the short float", z.knots(), 1);
        CHECK.same("tension() with the knot", z.tension(), 6);
        RugPunch w = leftOver(10);
        w.jump(1);
        CHECK.same("ease() with 2 left", w.ease(), 1);
        CHECK.same("coneOf(0) after a short waste", w.coneOf(0), 0);
        CHECK.same("drawnByRug(0) with a short waste", w.drawnByRug(0), 8000);
        RugPunch v = leftOver(10);
        CHECK.noState("thread(0) with 10 left", () -> v.thread(0));
        CHECK.same("the refused thread(0) cut nothing", v.coneOf(0), 10);
        CHECK.same("thread(1) cuts what is left", v.thread(1), 7980);
        CHECK.same("coneOf(0) then", v.coneOf(0), 0);
        tightWithoutYarn();
    }

    /** A loop that would be skipped needs the yarn of a loop all the same. */
    private static void tightWithoutYarn() {
        RugPunch x = leftOver(10);
        for (int i = 0; i < 5; i++) {
            x.turnLeft();
        }
        CHECK.holds("wouldSkip()", x.wouldSkip());
        CHECK.same("whyNoStitch()", x.whyNoStitch(), 3);
        CHECK.noState("sew(1)", () -> x.sew(1));
        x.setHeight(3);
        CHECK.same("sew(1) with the height 3", x.sew(1), 1);
        CHECK.same("coneOf(0)", x.coneOf(0), 6);
        CHECK.same("skipped()", x.skipped(), 1);
    }
}
