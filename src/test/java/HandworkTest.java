/** Promises 45 to 47 and 53: mending, unpicking, shearing. */
public final class HandworkTest {
    private static final Check CHECK = new Check();

    public static void main(String[] args) {
        mend();
        mendWithoutYarn();
        unpick();
        shear();
        CHECK.finish("HandworkTest");
    }

    private static void mend() {
        RugPunch x = new RugPunch();
        CHECK.noCell("mend(144)", () -> x.mend(144));
        CHECK.noCell("mend(-1)", () -> x.mend(-1));
        CHECK.noCell("whyNoMending(144)", () -> x.whyNoMending(144));
        CHECK.noCell("whyNoMending(-1)", () -> x.whyNoMending(-1));
        CHECK.same("whyNoMending(50) without a plan", x.whyNoMending(50), 1);
        CHECK.noState("mend(50) without a plan", () -> x.mend(50));
        x.fillPlan(0, 143, 3);
        x.setHeight(9);
        CHECK.same("whyNoMending(50)", x.whyNoMending(50), 0);
        CHECK.same("mend(50)", x.mend(50), 3);
        CHECK.same("loopOf(50)", x.loopOf(50), 3);
        CHECK.same("heightOf(50)", x.heightOf(50), 9);
        CHECK.same("coneOf(3)", x.coneOf(3), 8000 - 22);
        CHECK.same("tension()", x.tension(), 0);
        CHECK.same("needle()", x.needle(), 0);
        CHECK.same("whyNoMending(50) with a loop", x.whyNoMending(50), 1);
        CHECK.noState("mend(50) with a loop", () -> x.mend(50));
        x.setPlan(50, 2);
        CHECK.same("a wrong cell is not missing", x.whyNoMending(50), 1);
        x.setHeight(1);
        x.thread(0);
        x.sew(11);
        CHECK.same("a skipped cell is missing", x.whyNoMending(10), 0);
        CHECK.same("mend(10)", x.mend(10), 3);
        CHECK.holds("no longer skipped", !x.isSkipped(10));
        CHECK.same("skipped()", x.skipped(), 0);
        CHECK.same("drawnByRug(0) with the float of the skipped loop", x.drawnByRug(0), x.drawnByCone(0));
    }

    private static void mendWithoutYarn() {
        RugPunch x = new RugPunch();
        x.setPlan(5, 0);
        Check.write(x, "9(eeeeeeeeee)9(eeeeeeeeee)9(eeeeeeeeee)9(eeeeeeeeee)ee");
        x.thread(0);
        x.runText();
        x.runText();
        CHECK.same("coneOf(0)", x.coneOf(0), 8000 - 20 - 2 * 3620);
        while (x.coneOf(0) > 10) {
            x.ease();
        }
        CHECK.same("whyNoMending(5)", x.whyNoMending(5), 2);
        CHECK.noState("mend(5)", () -> x.mend(5));
        CHECK.same("no loop by the refused call", x.loopOf(5), -1);
        x.setHeight(3);
        CHECK.same("whyNoMending(5) with the height 3", x.whyNoMending(5), 0);
        CHECK.same("mend(5)", x.mend(5), 0);
        CHECK.same("coneOf(0) then", x.coneOf(0), 0);
        CHECK.same("a loop is the first reason", x.whyNoMending(5), 1);
    }

    private static void unpick() {
        RugPunch x = new RugPunch();
        CHECK.noCell("unpick(144)", () -> x.unpick(144));
        CHECK.noCell("unpick(-1)", () -> x.unpick(-1));
        CHECK.noState("unpick(0) of an empty cell", () -> x.unpick(0));
        x.thread(4);
        x.setHeight(5);
        x.sew(11);
        CHECK.same("unpick(3)", x.unpick(3), 4);
        CHECK.same("wasteOf(4)", x.wasteOf(4), 14);
        CHECK.same("loopOf(3)", x.loopOf(3), -1);
        CHECK.holds("not skipped", !x.isSkipped(3));
        CHECK.noState("unpick(3) again", () -> x.unpick(3));
        CHECK.holds("isSkipped(10)", x.isSkipped(10));
        CHECK.noState("unpick(10) of a skipped cell", () -> x.unpick(10));
        CHECK.holds("isSkipped(10) stays", x.isSkipped(10));
        x.shear(2);
        CHECK.same("unpick(4) sheared", x.unpick(4), 4);
        CHECK.same("wasteOf(4) is the same yarn in the end", x.wasteOf(4), 14 + 9 * 6 + 8);
        CHECK.same("drawnByRug(4)", x.drawnByRug(4), x.drawnByCone(4));
    }

    private static void shear() {
        RugPunch x = new RugPunch();
        CHECK.noRange("shear(0)", () -> x.shear(0));
        CHECK.noRange("shear(10)", () -> x.shear(10));
        CHECK.same("shear(1) without loops", x.shear(1), 0);
        x.fillPlan(0, 2, 1);
        x.setHeight(9);
        x.mend(0);
        x.setHeight(5);
        x.mend(1);
        x.setHeight(2);
        x.mend(2);
        CHECK.same("shear(9)", x.shear(9), 0);
        CHECK.same("shear(5)", x.shear(5), 1);
        CHECK.same("heightOf(0)", x.heightOf(0), 5);
        CHECK.same("wasteOf(1)", x.wasteOf(1), 8);
        CHECK.same("shear(2)", x.shear(2), 2);
        CHECK.same("wasteOf(1) then", x.wasteOf(1), 8 + 12);
        CHECK.same("heightOf(2)", x.heightOf(2), 2);
        CHECK.same("height() stays", x.height(), 2);
        CHECK.same("coneOf(1) stays", x.coneOf(1), 8000 - 22 - 14 - 8);
    }
}
