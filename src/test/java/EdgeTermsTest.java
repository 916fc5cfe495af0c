/** The sentences of the section "Terms" that name a border, an end, a wrap-around or a limit, one by one. */
public final class EdgeTermsTest {
    private static final Check CHECK = new Check();

    public static void main(String[] args) {
        cellsHaveNumbersByRows();
        cellsFromFirstToLast();
        coloursFromFirstToLast();
        rightMissingWrong();
        nothingIsRoundTheBorder();
        coneHoldsTwentyThousand();
        knotAtTheVeryThousand();
        knotCountsEachConeAlone();
        noKnotWithoutYarn();
        noKnotLaterForYarnDrawnByHand();
        threadingCutsFirst();
        endOfWhatIsLeftByCutting();
        endOfWhatIsLeftInCut();
        stitchReasonsInOrder();
        yarnThatIsJustEnough();
        looseTightAndTighter();
        highLoopsAreAboveSix();
        knotBehindTheLoop();
        knotBehindASkippedLoop();
        sewingEndsBehindTheBorderCell();
        sewingEndsBeforeWhatCannotBeDone();
        CHECK.finish("EdgeTermsTest");
    }

    private static void cellsHaveNumbersByRows() {
        RugPunch x = new RugPunch();
        x.fillPlan(12 * 3 + 2, 12 * 3 + 9, 1);
        for (int cell = 0; cell < 144; cell++) {
            boolean inside = cell / 12 == 3 && cell % 12 >= 2 && cell % 12 <= 9;
            CHECK.same("planOf(" + cell + ") with part of a row", x.planOf(cell), inside ? 1 : -1);
        }
        x.place(0, 0);
        x.jump(1);
        CHECK.same("the next column", x.needle(), 1);
        x.place(0, 1);
        x.jump(1);
        CHECK.same("the next row", x.needle(), 12);
        x.place(143, 2);
        x.jump(1);
        CHECK.same("the column before", x.needle(), 142);
        x.place(143, 3);
        x.jump(1);
        CHECK.same("the row before", x.needle(), 131);
    }

    private static void cellsFromFirstToLast() {
        RugPunch x = new RugPunch();
        CHECK.same("planOf(0)", x.planOf(0), -1);
        CHECK.same("planOf(143)", x.planOf(143), -1);
        CHECK.noCell("planOf(144)", () -> x.planOf(144));
        CHECK.noCell("planOf(-1)", () -> x.planOf(-1));
    }

    private static void coloursFromFirstToLast() {
        RugPunch x = new RugPunch();
        x.setPlan(0, 0);
        x.setPlan(1, 4);
        CHECK.same("the first colour", x.planOf(0), 0);
        CHECK.same("the last colour", x.planOf(1), 4);
        CHECK.same("coneOf(0)", x.coneOf(0), 8000);
        CHECK.same("coneOf(4)", x.coneOf(4), 8000);
        CHECK.noCell("coneOf(5)", () -> x.coneOf(5));
        CHECK.noCell("coneOf(-1)", () -> x.coneOf(-1));
    }

    /** A cell without a plan, with the plan of its loop or with another one; empty, with a loop, or skipped. */
    private static void rightMissingWrong() {
        int[] plans = {-1, 2, 3};
        int[][] due = {{0, 0, 0}, {0, 0, 1}, {0, 0, 0}, {0, 1, 0}, {1, 0, 0}, {0, 1, 0}, {0, 1, 0}, {0, 0, 1}, {0, 1, 0}};
        for (int plan = 0; plan < 3; plan++) {
            for (int content = 0; content < 3; content++) {
                RugPunch x = new RugPunch();
                x.place(77, 1);
                x.thread(2);
                if (content == 2) {
                    Check.tighten(x, 10);
                }
                if (content > 0) {
                    x.sew(1);
                }
                x.setPlan(77, plans[plan]);
                String what = " with the plan " + plans[plan] + " and the content " + content;
                CHECK.same("right()" + what, x.right(), due[3 * plan + content][0]);
                CHECK.same("missing()" + what, x.missing(), due[3 * plan + content][1]);
                CHECK.same("wrong()" + what, x.wrong(), due[3 * plan + content][2]);
                CHECK.same("skipped()" + what, x.skipped(), content == 2 ? 1 : 0);
            }
        }
    }

    private static void nothingIsRoundTheBorder() {
        RugPunch x = new RugPunch();
        for (int cell = 0; cell < 144; cell++) {
            boolean[] can = {cell % 12 != 11, cell / 12 != 11, cell % 12 != 0, cell / 12 != 0};
            for (int heading = 0; heading < 4; heading++) {
                x.place(cell, heading);
                CHECK.holds("canGo() at " + cell + " in " + heading, x.canGo() == can[heading]);
                x.undo();
            }
        }
        x.place(11, 0);
        CHECK.same("no way from the end of a row to the next one", x.jump(12), 0);
        CHECK.same("needle()", x.needle(), 11);
        x.place(12, 2);
        CHECK.same("no way from the start of a row to the one before", x.jump(12), 0);
        CHECK.same("needle()", x.needle(), 12);
        x.place(132, 1);
        CHECK.same("no way from the last row to the first", x.jump(12), 0);
        x.place(11, 3);
        CHECK.same("no way from the first row to the last", x.jump(12), 0);
        CHECK.same("needle()", x.needle(), 11);
    }

    private static void coneHoldsTwentyThousand() {
        RugPunch x = new RugPunch();
        x.wind(4, 9999);
        CHECK.same("20000 on the cone", x.wind(4, 2001), 20000);
        CHECK.noState("one more", () -> x.wind(4, 1));
        x.thread(4);
        CHECK.same("there is room for what was drawn", x.wind(4, 20), 20000);
    }

    private static void knotAtTheVeryThousand() {
        RugPunch below = new RugPunch();
        Check.leave(below, 0, 7010);
        below.setHeight(2);
        below.sew(1);
        CHECK.same("998 are drawn", below.drawnByCone(0), 998);
        CHECK.same("no knot with 998", below.knots(), 0);
        CHECK.same("untilKnot(0) with 998", below.untilKnot(0), 2);
        RugPunch at = new RugPunch();
        Check.leave(at, 0, 7010);
        at.setHeight(3);
        at.sew(1);
        CHECK.same("1000 are drawn", at.drawnByCone(0), 1000);
        CHECK.same("a knot with 1000", at.knots(), 1);
        CHECK.same("tension() with 1000", at.tension(), 5);
        CHECK.same("untilKnot(0) with 1000", at.untilKnot(0), 1000);
        at.sew(1);
        CHECK.same("no knot from 1000 on", at.knots(), 1);
        CHECK.same("tension() from 1000 on", at.tension(), 6);
        RugPunch above = new RugPunch();
        Check.leave(above, 0, 7010);
        above.setHeight(4);
        above.sew(1);
        CHECK.same("a knot with 1002", above.knots(), 1);
    }

    private static void knotCountsEachConeAlone() {
        RugPunch x = new RugPunch();
        Check.leave(x, 0, 7400);
        Check.leave(x, 1, 7400);
        x.sew(10);
        CHECK.same("drawn of the colour 0", x.drawnByCone(0), 620);
        CHECK.same("drawn of the colour 1", x.drawnByCone(1), 720);
        CHECK.same("no knot by both together", x.knots(), 0);
        CHECK.same("untilKnot(0)", x.untilKnot(0), 380);
        CHECK.same("untilKnot(1)", x.untilKnot(1), 280);
    }

    private static void noKnotWithoutYarn() {
        RugPunch x = new RugPunch();
        Check.leave(x, 0, 0);
        CHECK.same("jump(3) with an empty cone", x.jump(3), 3);
        CHECK.same("drawn", x.drawnByCone(0), 8000);
        CHECK.same("untilKnot(0)", x.untilKnot(0), 1000);
        CHECK.same("no knot when nothing is drawn", x.knots(), 0);
        CHECK.same("tension()", x.tension(), 3);
        x.wind(0, 1000);
        CHECK.same("winding is no drawing", x.untilKnot(0), 1000);
        x.sew(1);
        CHECK.same("no knot by what was wound", x.knots(), 0);
    }

    private static void noKnotLaterForYarnDrawnByHand() {
        RugPunch x = new RugPunch();
        Check.leave(x, 0, 7002);
        x.setPlan(143, 0);
        x.mend(143);
        CHECK.same("drawn", x.drawnByCone(0), 1012);
        x.jump(1);
        CHECK.same("the thousand was there before", x.knots(), 0);
        CHECK.same("tension()", x.tension(), 1);
    }

    private static void threadingCutsFirst() {
        RugPunch x = new RugPunch();
        Check.leave(x, 0, 40);
        CHECK.same("the end of cutting, and the end of threading", x.thread(0), 0);
        RugPunch y = new RugPunch();
        Check.leave(y, 0, 40);
        CHECK.same("thread(1)", y.thread(1), 7980);
        CHECK.same("the end of cutting", y.coneOf(0), 20);
        y.turnLeft();
        CHECK.same("thread(0) with 20", y.thread(0), 0);
        CHECK.same("tension() behind it", y.tension(), 0);
    }

    private static void endOfWhatIsLeftByCutting() {
        for (int left = 20; left <= 41; left++) {
            RugPunch x = new RugPunch();
            Check.leave(x, 2, left);
            int put = x.drawnByCone(2) + left;
            CHECK.same("thread(2) with " + left, x.thread(2), left > 40 ? left - 40 : 0);
            CHECK.same("threaded()", x.threaded(), 2);
            CHECK.same("drawnByRug(2)", x.drawnByRug(2), put - (left > 40 ? left - 40 : 0));
            CHECK.same("knots()", x.knots(), 0);
            CHECK.same("tension()", x.tension(), 0);
        }
        RugPunch y = new RugPunch();
        Check.leave(y, 2, 19);
        CHECK.noState("thread(2) with 19", () -> y.thread(2));
    }

    private static void endOfWhatIsLeftInCut() {
        for (int left = 0; left <= 21; left++) {
            RugPunch x = new RugPunch();
            Check.leave(x, 3, left);
            Check.tighten(x, 4);
            CHECK.same("cut() with " + left, x.cut(), 3);
            CHECK.same("coneOf(3)", x.coneOf(3), left > 20 ? left - 20 : 0);
            CHECK.same("drawnByRug(3)", x.drawnByRug(3), x.drawnByCone(3));
            CHECK.same("wasteOf(3) is not for ends", x.wasteOf(3), x.drawnByRug(3) - 20 - Math.min(left, 20));
            CHECK.same("tension()", x.tension(), 0);
            CHECK.same("threaded()", x.threaded(), -1);
            CHECK.same("knots()", x.knots(), 0);
        }
    }

    private static void stitchReasonsInOrder() {
        RugPunch x = new RugPunch();
        x.setPlan(0, 0);
        x.mend(0);
        Check.leave(x, 0, 0);
        CHECK.same("a loop, and no yarn", x.whyNoStitch(), 2);
        x.cut();
        CHECK.same("no thread, a loop, and no yarn", x.whyNoStitch(), 1);
        x.undo();
        x.unpick(0);
        CHECK.same("no yarn", x.whyNoStitch(), 3);
    }

    private static void yarnThatIsJustEnough() {
        for (int height = 1; height <= 9; height++) {
            int needs = 2 * height + 4;
            for (int left = needs - 1; left <= needs + 1; left++) {
                RugPunch x = new RugPunch();
                Check.leave(x, 1, left);
                x.setHeight(height);
                CHECK.same("whyNoStitch() with " + left + " and " + height, x.whyNoStitch(), left < needs ? 3 : 0);
                if (left >= needs) {
                    CHECK.same("sew(12)", x.sew(12), 1);
                    CHECK.same("coneOf(1)", x.coneOf(1), left - needs);
                } else {
                    CHECK.noState("sew(12)", () -> x.sew(12));
                }
            }
        }
    }

    private static void looseTightAndTighter() {
        for (int tension = 0; tension <= 14; tension++) {
            RugPunch x = new RugPunch();
            x.place(60, 0);
            x.thread(0);
            Check.tighten(x, tension);
            CHECK.same("tension()", x.tension(), tension);
            CHECK.holds("wouldSkip() with " + tension, x.wouldSkip() == (tension >= 10));
            int cell = x.needle();
            int cone = x.coneOf(0);
            CHECK.same("sew(1) with " + tension, x.sew(1), 1);
            CHECK.holds("isSkipped() with " + tension, x.isSkipped(cell) == (tension >= 10));
            CHECK.same("loopOf() with " + tension, x.loopOf(cell), tension >= 10 ? -1 : 0);
            CHECK.same("heightOf() with " + tension, x.heightOf(cell), tension >= 10 ? 0 : 4);
            CHECK.same("tension() behind " + tension, x.tension(), tension >= 10 ? 2 : tension + 1);
            CHECK.same("drawn with " + tension, cone - x.coneOf(0), tension >= 10 ? 4 : 12);
            CHECK.same("drawnByRug(0) with " + tension, x.drawnByRug(0), x.drawnByCone(0));
        }
    }

    private static void highLoopsAreAboveSix() {
        for (int height = 1; height <= 9; height++) {
            RugPunch x = new RugPunch();
            x.thread(0);
            x.setHeight(height);
            x.sew(1);
            CHECK.same("tension() by the height " + height, x.tension(), height > 6 ? 2 : 1);
            CHECK.same("drawn by the height " + height, x.drawnByCone(0), 20 + 2 * height + 4);
        }
        RugPunch x = new RugPunch();
        x.thread(0);
        x.setHeight(9);
        CHECK.same("sew(6) of high loops", x.sew(6), 6);
        CHECK.holds("the sixth is skipped", x.isSkipped(5));
        CHECK.holds("the fifth is not", !x.isSkipped(4));
        x.cut();
        x.place(24, 0);
        x.thread(1);
        x.jump(1);
        CHECK.same("sew(6) with 1 at first", x.sew(6), 6);
        CHECK.holds("from 9 to 11, and skipped then", x.isSkipped(30));
        CHECK.same("tension() behind it", x.tension(), 2);
    }

    private static void knotBehindTheLoop() {
        RugPunch low = new RugPunch();
        Check.leave(low, 0, 7010);
        low.setHeight(6);
        Check.tighten(low, 4);
        low.sew(1);
        CHECK.same("tension() by a low loop and a knot", low.tension(), 4 + 1 + 4);
        RugPunch high = new RugPunch();
        Check.leave(high, 0, 7010);
        high.setHeight(7);
        Check.tighten(high, 8);
        high.sew(1);
        CHECK.same("tension() by a high loop and a knot", high.tension(), 8 + 2 + 4);
        CHECK.same("the loop of the knot is not skipped", high.skipped(), 0);
        CHECK.same("the next one is", high.sew(1) + high.skipped(), 2);
    }

    private static void knotBehindASkippedLoop() {
        RugPunch below = skipWithDrawn(994);
        CHECK.same("tension() with 998", below.tension(), 2);
        CHECK.same("knots() with 998", below.knots(), 0);
        RugPunch at = skipWithDrawn(996);
        CHECK.same("tension() with 1000", at.tension(), 6);
        CHECK.same("knots() with 1000", at.knots(), 1);
        CHECK.same("skipped() with 1000", at.skipped(), 1);
        RugPunch above = skipWithDrawn(998);
        CHECK.same("tension() with 1002", above.tension(), 6);
        CHECK.same("knots() with 1002", above.knots(), 1);
        RugPunch behind = skipWithDrawn(1000);
        CHECK.same("tension() with 1004", behind.tension(), 2);
        CHECK.same("knots() with 1004", behind.knots(), 0);
    }

    /** Skips a loop when so much has been drawn: the last millimetres are a loop that is mended. */
    private static RugPunch skipWithDrawn(int drawn) {
        RugPunch x = new RugPunch();
        int byHand = 6 + (drawn - 6) % 10;
        Check.leave(x, 0, 8000 - drawn + byHand);
        x.setPlan(143, 0);
        x.setHeight((byHand - 4) / 2);
        x.mend(143);
        CHECK.same("drawn before the skipped loop", x.drawnByCone(0), drawn);
        Check.tighten(x, 12);
        x.sew(1);
        return x;
    }

    private static void sewingEndsBehindTheBorderCell() {
        int[] starts = {9, 117, 2, 33};
        int[] ends = {11, 141, 0, 9};
        for (int heading = 0; heading < 4; heading++) {
            RugPunch x = new RugPunch();
            x.place(starts[heading], heading);
            x.thread(4);
            CHECK.same("couldSew() in " + heading, x.couldSew(), 3);
            CHECK.same("sew(12) in " + heading, x.sew(12), 3);
            CHECK.same("needle()", x.needle(), ends[heading]);
            CHECK.same("the border cell has its loop", x.loopOf(ends[heading]), 4);
            CHECK.same("and is the reason now", x.whyNoStitch(), 2);
            CHECK.same("couldSew() there", x.couldSew(), 0);
        }
        RugPunch row = new RugPunch();
        row.thread(0);
        CHECK.same("a whole row", row.sew(12), 12);
        CHECK.same("needle()", row.needle(), 11);
        RugPunch corner = new RugPunch();
        corner.place(0, 3);
        corner.thread(0);
        CHECK.same("sew(1) at the border", corner.sew(1), 1);
        CHECK.same("needle() stays", corner.needle(), 0);
    }

    private static void sewingEndsBeforeWhatCannotBeDone() {
        RugPunch loop = new RugPunch();
        loop.setPlan(3, 1);
        loop.mend(3);
        loop.thread(0);
        CHECK.same("sew(12) up to a loop", loop.sew(12), 3);
        CHECK.same("needle() at the loop", loop.needle(), 3);
        RugPunch yarn = new RugPunch();
        Check.leave(yarn, 0, 35);
        CHECK.same("sew(12) up to the end of the yarn", yarn.sew(12), 2);
        CHECK.same("needle() behind the last loop", yarn.needle(), 2);
        CHECK.same("coneOf(0)", yarn.coneOf(0), 11);
        RugPunch told = new RugPunch();
        told.thread(0);
        CHECK.same("sew(3) ends when told", told.sew(3), 3);
        CHECK.same("needle()", told.needle(), 3);
    }
}
