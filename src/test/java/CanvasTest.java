/** Promises 1, 5 to 16, 33 and 34: a new object, the canvas and the plan. */
public final class CanvasTest {
    private static final Check CHECK = new Check();

    public static void main(String[] args) {
        newObject();
        setPlan();
        fillPlan();
        cells();
        counts();
        areas();
        CHECK.finish("CanvasTest");
    }

    private static void newObject() {
        RugPunch x = new RugPunch();
        for (int cell = 0; cell < 144; cell++) {
            CHECK.same("planOf", x.planOf(cell), -1);
            CHECK.same("loopOf", x.loopOf(cell), -1);
            CHECK.same("heightOf", x.heightOf(cell), 0);
            CHECK.holds("a new cell is not skipped", !x.isSkipped(cell));
        }
        for (int colour = 0; colour < 5; colour++) {
            CHECK.same("coneOf", x.coneOf(colour), 8000);
            CHECK.same("wasteOf", x.wasteOf(colour), 0);
        }
        for (int motif = 0; motif < 4; motif++) {
            CHECK.same("motifLength", x.motifLength(motif), 0);
        }
        CHECK.same("right()", x.right(), 0);
        CHECK.same("missing()", x.missing(), 0);
        CHECK.same("wrong()", x.wrong(), 0);
        CHECK.same("skipped()", x.skipped(), 0);
        CHECK.same("needle()", x.needle(), 0);
        CHECK.same("heading()", x.heading(), 0);
        CHECK.same("threaded()", x.threaded(), -1);
        CHECK.same("height()", x.height(), 4);
        CHECK.same("tension()", x.tension(), 0);
        CHECK.same("knots()", x.knots(), 0);
        CHECK.same("errorPosition()", x.errorPosition(), 0);
        CHECK.noState("undo() on a new object", x::undo);
    }

    private static void setPlan() {
        RugPunch x = new RugPunch();
        CHECK.same("setPlan(143, 4)", x.setPlan(143, 4), -1);
        CHECK.same("setPlan(143, 0)", x.setPlan(143, 0), 4);
        CHECK.same("planOf(143)", x.planOf(143), 0);
        CHECK.same("planOf(142)", x.planOf(142), -1);
        CHECK.same("setPlan(143, NONE)", x.setPlan(143, -1), 0);
        CHECK.same("planOf(143) without a plan", x.planOf(143), -1);
        CHECK.noCell("setPlan(144, 0)", () -> x.setPlan(144, 0));
        CHECK.noCell("setPlan(-1, 5)", () -> x.setPlan(-1, 5));
        CHECK.noRange("setPlan(0, 5)", () -> x.setPlan(0, 5));
        CHECK.noRange("setPlan(0, -2)", () -> x.setPlan(0, -2));
        CHECK.same("planOf(0) after refused calls", x.planOf(0), -1);
    }

    private static void fillPlan() {
        RugPunch x = new RugPunch();
        CHECK.same("fillPlan(0, 26, 1)", x.fillPlan(0, 26, 1), 9);
        CHECK.same("the same again", x.fillPlan(0, 26, 1), 0);
        CHECK.same("from the other corners", x.fillPlan(2, 24, 2), 9);
        CHECK.same("from below", x.fillPlan(26, 0, 1), 9);
        CHECK.same("partly different", x.fillPlan(13, 39, 1), 5);
        CHECK.same("planOf(39)", x.planOf(39), 1);
        CHECK.same("planOf(36)", x.planOf(36), -1);
        CHECK.same("planOf(3)", x.planOf(3), -1);
        CHECK.same("one cell", x.fillPlan(143, 143, 0), 1);
        CHECK.same("the whole canvas", x.fillPlan(132, 11, 3), 144);
        CHECK.same("the last colour", x.fillPlan(0, 143, 4), 144);
        CHECK.same("no plan", x.fillPlan(0, 143, -1), 144);
        CHECK.noCell("fillPlan(144, 0, 9)", () -> x.fillPlan(144, 0, 9));
        CHECK.noCell("fillPlan(0, 144, 9)", () -> x.fillPlan(0, 144, 9));
        CHECK.noCell("fillPlan(0, -1, 0)", () -> x.fillPlan(0, -1, 0));
        CHECK.noRange("fillPlan(0, 0, 5)", () -> x.fillPlan(0, 0, 5));
        CHECK.noRange("fillPlan(0, 0, -2)", () -> x.fillPlan(0, 0, -2));
    }

    private static void cells() {
        RugPunch x = new RugPunch();
        int[] none = {-1, 144, Integer.MIN_VALUE, Integer.MAX_VALUE};
        for (int cell : none) {
            CHECK.noCell("planOf", () -> x.planOf(cell));
            CHECK.noCell("loopOf", () -> x.loopOf(cell));
            CHECK.noCell("heightOf", () -> x.heightOf(cell));
            CHECK.noCell("isSkipped", () -> x.isSkipped(cell));
        }
        x.thread(2);
        x.setHeight(6);
        x.sew(1);
        CHECK.same("loopOf(0)", x.loopOf(0), 2);
        CHECK.same("heightOf(0)", x.heightOf(0), 6);
        CHECK.same("loopOf(1)", x.loopOf(1), -1);
        x.sew(11);
        CHECK.holds("the cell 10 is skipped", x.isSkipped(10));
        CHECK.same("loopOf a skipped cell", x.loopOf(10), -1);
        CHECK.same("heightOf a skipped cell", x.heightOf(10), 0);
        CHECK.holds("a cell with a loop is not skipped", !x.isSkipped(9));
        x.unpick(0);
        CHECK.same("loopOf(0) unpicked", x.loopOf(0), -1);
        CHECK.same("heightOf(0) unpicked", x.heightOf(0), 0);
    }

    private static void counts() {
        RugPunch x = new RugPunch();
        CHECK.same("density() without loops", (double) x.density(), 0.0);
        CHECK.same("meanHeight() without loops", x.meanHeight(), 0.0);
        x.fillPlan(0, 1, 0);
        x.fillPlan(2, 2, 1);
        x.fillPlan(9, 13, 0);
        CHECK.same("missing() at first", x.missing(), plannedCells(x));
        x.thread(0);
        x.sew(2);
        CHECK.same("right()", x.right(), 2);
        CHECK.same("wrong()", x.wrong(), 0);
        x.fillPlan(0, 143, -1);
        CHECK.same("missing() without a plan", x.missing(), 0);
        CHECK.same("right() without a plan", x.right(), 0);
        CHECK.same("loops that no plan tells are wrong", x.wrong(), 2);
        x.setPlan(0, 1);
        x.setPlan(1, 0);
        x.setPlan(5, 0);
        CHECK.same("right() with another plan", x.right(), 1);
        CHECK.same("wrong() with another plan", x.wrong(), 1);
        CHECK.same("a cell with a wrong loop is not missing", x.missing(), 1);
        x.setHeight(7);
        x.sew(1);
        CHECK.same("density()", (double) x.density(), (double) (3f / 144f));
        CHECK.same("meanHeight()", x.meanHeight(), 5.0);
        x.fillPlan(0, 143, 0);
        x.sew(9);
        CHECK.same("skipped()", x.skipped(), 2);
        CHECK.same("skipped cells with a plan are missing", x.missing(), 144 - x.right());
        CHECK.same("right() at the end", x.right(), 10);
    }

    private static int plannedCells(RugPunch x) {
        int planned = 0;
        for (int cell = 0; cell < 144; cell++) {
            planned += x.planOf(cell) != -1 ? 1 : 0;
        }
        return planned;
    }

    private static void areas() {
        RugPunch x = new RugPunch();
        sameAreas(x, 0, 0);
        x.fillPlan(0, 26, 0);
        sameAreas(x, 0, 1);
        x.setPlan(39, 0);
        sameAreas(x, 0, 2);
        x.setPlan(38, 0);
        sameAreas(x, 0, 1);
        x.setPlan(13, -1);
        sameAreas(x, 0, 1);
        x.setPlan(13, 4);
        sameAreas(x, 0, 1);
        sameAreas(x, 4, 1);
        x.fillPlan(0, 143, -1);
        x.setPlan(11, 2);
        x.setPlan(12, 2);
        sameAreas(x, 2, 2);
        x.fillPlan(0, 143, 3);
        sameAreas(x, 3, 1);
        CHECK.noCell("areasBySpreading(5)", () -> x.areasBySpreading(5));
        CHECK.noCell("areasBySpreading(-1)", () -> x.areasBySpreading(-1));
        CHECK.noCell("areasByJoining(5)", () -> x.areasByJoining(5));
        CHECK.noCell("areasByJoining(-1)", () -> x.areasByJoining(-1));
        RugPunch board = new RugPunch();
        for (int cell = 0; cell < 144; cell++) {
            board.setPlan(cell, (cell / 12 + cell) % 2);
        }
        sameAreas(board, 0, 72);
        sameAreas(board, 1, 72);
        comb();
    }

    /** Teeth that are joined by the last row alone, and a line that winds. */
    private static void comb() {
        RugPunch x = new RugPunch();
        for (int column = 0; column < 12; column += 2) {
            x.fillPlan(column, column + 120, 1);
        }
        sameAreas(x, 1, 6);
        x.fillPlan(132, 143, 1);
        sameAreas(x, 1, 1);
        RugPunch winding = new RugPunch();
        for (int row = 0; row < 12; row += 2) {
            winding.fillPlan(12 * row, 12 * row + 11, 2);
            if (row < 10) {
                winding.setPlan(12 * row + (row % 4 == 0 ? 23 : 12), 2);
            }
        }
        sameAreas(winding, 2, 1);
        winding.setPlan(23, -1);
        sameAreas(winding, 2, 2);
    }

    private static void sameAreas(RugPunch x, int colour, int due) {
        CHECK.same("areasBySpreading", x.areasBySpreading(colour), due);
        CHECK.same("areasByJoining", x.areasByJoining(colour), due);
    }
}
