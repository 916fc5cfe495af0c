/** Promises 33 to 51: each border, each empty and each full case, and each refused call, promise by promise. */
public final class EdgeActionTest {
    private static final Check CHECK = new Check();
    private static final int LEAST = Integer.MIN_VALUE;
    private static final int MOST = Integer.MAX_VALUE;
    private static final int[] NO_CELLS = {-1, 144, LEAST, MOST};
    private static final int[] NO_COLOURS = {-1, 5, LEAST, MOST};
    private static final int[] NO_HEIGHTS = {-1, 0, 10, LEAST, MOST};
    private static final int[] NO_COUNTS = {-1, 0, 13, LEAST, MOST};
    private static final int[] NO_MOTIFS = {-1, 4, LEAST, MOST};

    public static void main(String[] args) {
        p33SetPlan();
        p34FillPlan();
        p34Corners();
        p35Thread();
        p36Cut();
        p37Sew();
        p38Jump();
        p38JumpWithLittleYarn();
        p39And40Turns();
        p41Ease();
        p42SetHeight();
        p43Place();
        p44Wind();
        p45Mend();
        p46Unpick();
        p47Shear();
        p48Store();
        p49Run();
        p50RunText();
        p50BrokenOrders();
        p50EachOrder();
        p50MotifsInMotifs();
        p50FourHundredOrders();
        p51Undo();
        p51EverythingComesBack();
        p51FourteenStates();
        CHECK.finish("EdgeActionTest");
    }

    private static void p33SetPlan() {
        for (int cell : NO_CELLS) {
            CHECK.changesNothing("setPlan(" + cell + ", 0)", Check::busy, Check.NO_INDEX, x -> x.setPlan(cell, 0));
            CHECK.changesNothing("setPlan(" + cell + ", 5)", Check::busy, Check.NO_INDEX, x -> x.setPlan(cell, 5));
        }
        for (int colour : new int[] {-2, 5, LEAST, MOST}) {
            CHECK.changesNothing("setPlan(0, " + colour + ")", Check::busy, Check.NO_ARGUMENT, x -> x.setPlan(0, colour));
        }
        RugPunch x = new RugPunch();
        for (int cell : new int[] {0, 143}) {
            CHECK.same("setPlan without a plan", x.setPlan(cell, 0), RugPunch.NONE);
            CHECK.same("setPlan the same again", x.setPlan(cell, 0), 0);
            CHECK.same("setPlan the last colour", x.setPlan(cell, 4), 0);
            CHECK.same("setPlan none", x.setPlan(cell, RugPunch.NONE), 4);
            CHECK.same("setPlan none again", x.setPlan(cell, RugPunch.NONE), RugPunch.NONE);
            CHECK.same("planOf", x.planOf(cell), RugPunch.NONE);
        }
    }

    private static void p34FillPlan() {
        for (int cell : NO_CELLS) {
            CHECK.changesNothing("fillPlan(" + cell + ", 0, 0)", Check::busy, Check.NO_INDEX, x -> x.fillPlan(cell, 0, 0));
            CHECK.changesNothing("fillPlan(0, " + cell + ", 0)", Check::busy, Check.NO_INDEX, x -> x.fillPlan(0, cell, 0));
            CHECK.changesNothing("fillPlan(" + cell + ", 0, 5)", Check::busy, Check.NO_INDEX, x -> x.fillPlan(cell, 0, 5));
            CHECK.changesNothing("fillPlan(0, " + cell + ", 5)", Check::busy, Check.NO_INDEX, x -> x.fillPlan(0, cell, 5));
        }
        for (int colour : new int[] {-2, 5, LEAST, MOST}) {
            CHECK.changesNothing("fillPlan(0, 143, " + colour + ")", Check::busy, Check.NO_ARGUMENT,
                    x -> x.fillPlan(0, 143, colour));
        }
        RugPunch x = new RugPunch();
        CHECK.same("none where none is", x.fillPlan(0, 143, RugPunch.NONE), 0);
        CHECK.same("one cell", x.fillPlan(143, 143, 4), 1);
        CHECK.same("all cells but one are different then", x.fillPlan(0, 143, 4), 143);
        CHECK.same("none is different then", x.fillPlan(0, 143, 4), 0);
        CHECK.same("none in place of the plan", x.fillPlan(143, 0, RugPunch.NONE), 144);
        x.thread(0);
        x.sew(2);
        x.fillPlan(0, 143, 1);
        CHECK.same("loops stay", x.loopOf(1), 0);
    }

    /** Each pair of corners gives the same cells. */
    private static void p34Corners() {
        int[][] corners = {{26, 53}, {53, 26}, {29, 50}, {50, 29}};
        for (int[] pair : corners) {
            RugPunch x = new RugPunch();
            CHECK.same("fillPlan(" + pair[0] + ", " + pair[1] + ", 3)", x.fillPlan(pair[0], pair[1], 3), 12);
            for (int cell = 0; cell < 144; cell++) {
                boolean inside = cell % 12 >= 2 && cell % 12 <= 5 && cell / 12 >= 2 && cell / 12 <= 4;
                CHECK.same("planOf(" + cell + ")", x.planOf(cell), inside ? 3 : -1);
            }
        }
        RugPunch x = new RugPunch();
        CHECK.same("the last column", x.fillPlan(11, 143, 0), 12);
        CHECK.same("the first column", x.fillPlan(132, 0, 1), 12);
        CHECK.same("the first row", x.fillPlan(11, 0, 2), 12);
        CHECK.same("the last row", x.fillPlan(132, 143, 2), 12);
        CHECK.same("from the end of a row to the start of the next", x.fillPlan(11, 12, 4), 24);
    }

    private static void p35Thread() {
        for (int colour : NO_COLOURS) {
            CHECK.changesNothing("thread(" + colour + ")", Check::busy, Check.NO_INDEX, x -> x.thread(colour));
        }
        for (int left : new int[] {0, 1, 10, 19}) {
            CHECK.changesNothing("thread(2) with " + left, x -> Check.leave(x, 2, left), Check.NO_STATE, x -> x.thread(2));
            CHECK.changesNothing("thread(2) with " + left + ", another one is threaded", x -> {
                Check.leave(x, 2, left + 20);
                x.thread(4);
                x.turnLeft();
            }, Check.NO_STATE, x -> x.thread(2));
        }
        RugPunch x = new RugPunch();
        Check.leave(x, 2, 40);
        x.cut();
        CHECK.same("thread(2) with just 20", x.thread(2), 0);
        CHECK.same("threaded() with an empty cone", x.threaded(), 2);
        CHECK.same("whyNoStitch() with an empty cone", x.whyNoStitch(), 3);
        RugPunch first = new RugPunch();
        CHECK.same("thread(0)", first.thread(0), 7980);
        CHECK.same("thread(4)", first.thread(4), 7980);
        Check.tighten(first, 8);
        CHECK.same("thread(4) again", first.thread(4), 7940);
        CHECK.same("tension() behind it", first.tension(), 0);
        CHECK.same("heading() stays", first.heading(), 0);
    }

    private static void p36Cut() {
        CHECK.changesNothing("cut() of a new object", x -> { }, Check.NO_STATE, RugPunch::cut);
        CHECK.changesNothing("cut() again", x -> {
            Check.busy(x);
            x.cut();
        }, Check.NO_STATE, RugPunch::cut);
        RugPunch x = new RugPunch();
        x.thread(0);
        CHECK.same("cut() of the first colour", x.cut(), 0);
        CHECK.same("coneOf(0)", x.coneOf(0), 7960);
        Check.leave(x, 4, 7);
        CHECK.same("cut() with 7 left", x.cut(), 4);
        CHECK.same("coneOf(4)", x.coneOf(4), 0);
        CHECK.same("drawnByRug(4)", x.drawnByRug(4), x.drawnByCone(4));
    }

    private static void p37Sew() {
        for (int stitches : NO_COUNTS) {
            CHECK.changesNothing("sew(" + stitches + ")", Check::busy, Check.NO_ARGUMENT, x -> x.sew(stitches));
            CHECK.changesNothing("sew(" + stitches + ") without a thread", x -> { }, Check.NO_ARGUMENT, x -> x.sew(stitches));
        }
        CHECK.changesNothing("sew(1) without a thread", x -> { }, Check.NO_STATE, x -> x.sew(1));
        CHECK.changesNothing("sew(12) at a loop", x -> {
            Check.busy(x);
            x.cut();
            x.place(3, 0);
            x.thread(2);
        }, Check.NO_STATE, x -> x.sew(12));
        CHECK.changesNothing("sew(1) with too little yarn", x -> Check.leave(x, 0, 11), Check.NO_STATE, x -> x.sew(1));
        RugPunch x = new RugPunch();
        x.thread(0);
        CHECK.same("sew(12), the most", x.sew(12), 12);
        CHECK.same("the skipped one is among them", x.skipped(), 1);
        CHECK.same("needle() at the border", x.needle(), 11);
        RugPunch y = new RugPunch();
        y.thread(0);
        CHECK.same("sew(1), the least", y.sew(1), 1);
        y.jump(10);
        CHECK.same("a skipped one alone", y.sew(12), 1);
        CHECK.same("skipped()", y.skipped(), 1);
    }

    private static void p38Jump() {
        for (int cells : NO_COUNTS) {
            CHECK.changesNothing("jump(" + cells + ")", Check::busy, Check.NO_ARGUMENT, x -> x.jump(cells));
        }
        RugPunch x = new RugPunch();
        CHECK.same("jump(12), one more than there is", x.jump(12), 11);
        CHECK.same("jump(1) at the border", x.jump(1), 0);
        CHECK.same("a jump that goes nowhere is an action", x.undo(), 1);
        x.thread(0);
        CHECK.same("jump(12) at the border with a thread", x.jump(12), 0);
        CHECK.same("no tension by it", x.tension(), 0);
        CHECK.same("no yarn by it", x.coneOf(0), 7980);
        int[] starts = {0, 0, 143, 143};
        for (int heading = 0; heading < 4; heading++) {
            RugPunch y = new RugPunch();
            y.place(starts[heading], heading);
            y.thread(1);
            CHECK.same("jump(11) in " + heading, y.jump(11), 11);
            CHECK.same("tension()", y.tension(), 11);
            CHECK.same("coneOf(1)", y.coneOf(1), 7980 - 88);
            CHECK.holds("canGo()", !y.canGo());
        }
        RugPunch over = new RugPunch();
        over.fillPlan(0, 11, 0);
        over.mend(1);
        over.thread(0);
        CHECK.same("a jump goes over loops", over.jump(2), 2);
        CHECK.same("and makes none", over.loopOf(2), -1);
    }

    private static void p38JumpWithLittleYarn() {
        for (int left = 0; left <= 25; left++) {
            RugPunch x = new RugPunch();
            Check.leave(x, 0, left);
            int drawn = x.drawnByCone(0);
            CHECK.same("jump(3) with " + left, x.jump(3), 3);
            CHECK.same("coneOf(0)", x.coneOf(0), left > 24 ? left - 24 : 0);
            CHECK.same("drawnByCone(0)", x.drawnByCone(0), drawn + Math.min(left, 24));
            CHECK.same("drawnByRug(0)", x.drawnByRug(0), drawn + Math.min(left, 24));
            boolean knot = x.drawnByCone(0) / 1000 > drawn / 1000;
            CHECK.same("knots()", x.knots(), knot ? 1 : 0);
            CHECK.same("tension()", x.tension(), knot ? 7 : 3);
        }
    }

    private static void p39And40Turns() {
        RugPunch x = new RugPunch();
        int[] left = {3, 2, 1, 0, 3};
        for (int heading : left) {
            CHECK.same("turnLeft()", x.turnLeft(), heading);
            CHECK.same("heading()", x.heading(), heading);
        }
        int[] right = {0, 1, 2, 3, 0};
        for (int heading : right) {
            CHECK.same("turnRight()", x.turnRight(), heading);
            CHECK.same("heading()", x.heading(), heading);
        }
        CHECK.same("tension() without a thread", x.tension(), 0);
        x.thread(0);
        x.turnLeft();
        CHECK.same("tension() with the first colour", x.tension(), 2);
        x.turnRight();
        CHECK.same("tension() by the other way", x.tension(), 4);
        CHECK.same("no yarn by turns", x.coneOf(0), 7980);
    }

    private static void p41Ease() {
        CHECK.changesNothing("ease() of a new object", x -> { }, Check.NO_STATE, RugPunch::ease);
        CHECK.changesNothing("ease() behind cut()", x -> {
            Check.busy(x);
            x.cut();
        }, Check.NO_STATE, RugPunch::ease);
        for (int left = 0; left <= 11; left++) {
            RugPunch x = new RugPunch();
            Check.leave(x, 0, left);
            int waste = x.wasteOf(0);
            Check.tighten(x, 6);
            CHECK.same("ease() with " + left, x.ease(), 6);
            CHECK.same("wasteOf(0)", x.wasteOf(0), waste + Math.min(left, 10));
            CHECK.same("coneOf(0)", x.coneOf(0), left > 10 ? left - 10 : 0);
            CHECK.same("drawnByRug(0)", x.drawnByRug(0), x.drawnByCone(0));
            CHECK.same("no knot", x.knots(), 0);
            CHECK.same("tension() then", x.tension(), 0);
            CHECK.same("ease() without tension", x.ease(), 0);
        }
    }

    private static void p42SetHeight() {
        for (int height : NO_HEIGHTS) {
            CHECK.changesNothing("setHeight(" + height + ")", Check::busy, Check.NO_ARGUMENT, x -> x.setHeight(height));
        }
        RugPunch x = new RugPunch();
        CHECK.same("setHeight(1), the least", x.setHeight(1), 4);
        CHECK.same("setHeight(9), the most", x.setHeight(9), 1);
        CHECK.same("setHeight(9) again", x.setHeight(9), 9);
        CHECK.same("height()", x.height(), 9);
    }

    private static void p43Place() {
        for (int cell : NO_CELLS) {
            CHECK.changesNothing("place(" + cell + ", 0)", x -> x.turnLeft(), Check.NO_INDEX, x -> x.place(cell, 0));
            CHECK.changesNothing("place(" + cell + ", 4)", x -> x.turnLeft(), Check.NO_INDEX, x -> x.place(cell, 4));
            CHECK.changesNothing("place(" + cell + ", 0) threaded", Check::busy, Check.NO_INDEX, x -> x.place(cell, 0));
            CHECK.changesNothing("place(" + cell + ", 4) threaded", Check::busy, Check.NO_INDEX, x -> x.place(cell, 4));
        }
        for (int heading : new int[] {-1, 4, LEAST, MOST}) {
            CHECK.changesNothing("place(0, " + heading + ")", x -> x.turnLeft(), Check.NO_ARGUMENT, x -> x.place(0, heading));
            CHECK.changesNothing("place(0, " + heading + ") threaded", Check::busy, Check.NO_ARGUMENT,
                    x -> x.place(0, heading));
        }
        CHECK.changesNothing("place(0, 0) threaded", Check::busy, Check.NO_STATE, x -> x.place(0, 0));
        RugPunch x = new RugPunch();
        CHECK.same("place(143, 3), the last ones", x.place(143, 3), 0);
        CHECK.same("place(0, 0), the first ones", x.place(0, 0), 143);
        CHECK.same("place(0, 0) where it is", x.place(0, 0), 0);
        CHECK.same("heading()", x.heading(), 0);
        x.thread(0);
        CHECK.noState("place(5, 1) with the first colour", () -> x.place(5, 1));
        x.cut();
        CHECK.same("place(5, 1) behind cut()", x.place(5, 1), 0);
        CHECK.same("heading() then", x.heading(), 1);
        CHECK.same("tension() then", x.tension(), 0);
    }

    private static void p44Wind() {
        for (int colour : NO_COLOURS) {
            CHECK.changesNothing("wind(" + colour + ", 1)", Check::busy, Check.NO_INDEX, x -> x.wind(colour, 1));
            CHECK.changesNothing("wind(" + colour + ", 0)", Check::busy, Check.NO_INDEX, x -> x.wind(colour, 0));
        }
        for (int millimetres : new int[] {-1, 0, 10000, LEAST, MOST}) {
            CHECK.changesNothing("wind(0, " + millimetres + ")", Check::busy, Check.NO_ARGUMENT,
                    x -> x.wind(0, millimetres));
            CHECK.changesNothing("wind(3, " + millimetres + ") on a cone that is almost full", Check::busy,
                    Check.NO_ARGUMENT, x -> x.wind(3, millimetres));
        }
        CHECK.changesNothing("wind(3, 2002) on 17999", Check::busy, Check.NO_STATE, x -> x.wind(3, 2002));
        CHECK.changesNothing("wind(3, 9999) on 17999", Check::busy, Check.NO_STATE, x -> x.wind(3, 9999));
        RugPunch x = new RugPunch();
        CHECK.same("wind(4, 9999), the most", x.wind(4, 9999), 17999);
        CHECK.same("wind(4, 1), the least", x.wind(4, 1), 18000);
        CHECK.same("wind(4, 2000) to the limit", x.wind(4, 2000), 20000);
        CHECK.noState("wind(4, 1) over the limit", () -> x.wind(4, 1));
        Check.leave(x, 0, 0);
        CHECK.same("wind(0, 1) onto an empty cone", x.wind(0, 1), 1);
        CHECK.same("no knot by winding", x.knots(), 0);
    }

    private static void p45Mend() {
        for (int cell : NO_CELLS) {
            CHECK.changesNothing("mend(" + cell + ")", Check::busy, Check.NO_INDEX, x -> x.mend(cell));
        }
        CHECK.changesNothing("mend(143) without a plan", Check::busy, Check.NO_STATE, x -> x.mend(143));
        CHECK.changesNothing("mend(0) of a right cell", Check::busy, Check.NO_STATE, x -> x.mend(0));
        CHECK.changesNothing("mend(0) of a wrong cell", x -> {
            Check.busy(x);
            x.setPlan(0, 4);
        }, Check.NO_STATE, x -> x.mend(0));
        for (int height = 1; height <= 9; height++) {
            int needs = 2 * height + 4;
            int high = height;
            CHECK.changesNothing("mend(143) with too little yarn", x -> {
                Check.leave(x, 3, needs - 1);
                x.setPlan(143, 3);
                x.setHeight(high);
            }, Check.NO_STATE, x -> x.mend(143));
            RugPunch x = new RugPunch();
            Check.leave(x, 3, needs);
            x.setPlan(143, 3);
            x.setHeight(height);
            CHECK.same("mend(143) with just enough", x.mend(143), 3);
            CHECK.same("coneOf(3)", x.coneOf(3), 0);
            CHECK.same("heightOf(143)", x.heightOf(143), height);
            CHECK.same("no knot", x.knots(), 0);
            CHECK.same("no tension", x.tension(), 0);
        }
        RugPunch x = new RugPunch();
        x.setPlan(0, 0);
        x.thread(1);
        CHECK.same("mend(0) with the colour of the plan, not of the needle", x.mend(0), 0);
        CHECK.same("coneOf(1)", x.coneOf(1), 7980);
        CHECK.same("needle() stays", x.needle(), 0);
    }

    private static void p46Unpick() {
        for (int cell : NO_CELLS) {
            CHECK.changesNothing("unpick(" + cell + ")", Check::busy, Check.NO_INDEX, x -> x.unpick(cell));
        }
        CHECK.changesNothing("unpick(143) of an empty cell", Check::busy, Check.NO_STATE, x -> x.unpick(143));
        CHECK.changesNothing("unpick(5) of a skipped cell", Check::busy, Check.NO_STATE, x -> x.unpick(5));
        CHECK.changesNothing("unpick(0) again", x -> {
            Check.busy(x);
            x.unpick(0);
        }, Check.NO_STATE, x -> x.unpick(0));
        RugPunch x = new RugPunch();
        x.setPlan(143, 0);
        x.setHeight(9);
        x.mend(143);
        x.setHeight(1);
        CHECK.same("unpick(143) of the first colour", x.unpick(143), 0);
        CHECK.same("its own height counts", x.wasteOf(0), 22);
        CHECK.same("the cone gets nothing", x.coneOf(0), 7978);
        CHECK.same("the cell is missing again", x.missing(), 1);
        x.thread(4);
        x.sew(1);
        CHECK.same("unpick(0) of a wrong cell", x.unpick(0), 4);
        CHECK.same("wasteOf(4)", x.wasteOf(4), 6);
        CHECK.same("tension() stays", x.tension(), 1);
    }

    private static void p47Shear() {
        for (int height : NO_HEIGHTS) {
            CHECK.changesNothing("shear(" + height + ")", Check::busy, Check.NO_ARGUMENT, x -> x.shear(height));
        }
        RugPunch x = new RugPunch();
        CHECK.same("shear(1) of an empty canvas", x.shear(1), 0);
        x.fillPlan(0, 8, 2);
        for (int cell = 0; cell < 9; cell++) {
            x.setHeight(cell + 1);
            x.mend(cell);
        }
        CHECK.same("shear(9) of loops that are not higher", x.shear(9), 0);
        CHECK.same("wasteOf(2) by it", x.wasteOf(2), 0);
        CHECK.same("shear(8)", x.shear(8), 1);
        CHECK.same("shear(8) again", x.shear(8), 0);
        CHECK.same("wasteOf(2) by one millimetre", x.wasteOf(2), 2);
        CHECK.same("shear(5)", x.shear(5), 4);
        CHECK.same("wasteOf(2) then", x.wasteOf(2), 2 + 2 * (1 + 2 + 3 + 3));
        CHECK.same("heightOf(4) stays", x.heightOf(4), 5);
        CHECK.same("shear(1)", x.shear(1), 8);
        for (int cell = 0; cell < 9; cell++) {
            CHECK.same("heightOf", x.heightOf(cell), 1);
        }
        CHECK.same("drawnByRug(2)", x.drawnByRug(2), x.drawnByCone(2));
        CHECK.same("height() is not sheared", x.height(), 9);
        RugPunch full = new RugPunch();
        full.fillPlan(0, 143, 0);
        full.setHeight(2);
        for (int cell = 0; cell < 144; cell++) {
            full.mend(cell);
        }
        CHECK.same("shear(1) of a full canvas", full.shear(1), 144);
        CHECK.same("wasteOf(0)", full.wasteOf(0), 288);
    }

    private static void p48Store() {
        for (int motif : NO_MOTIFS) {
            CHECK.changesNothing("store(" + motif + ")", Check::busy, Check.NO_INDEX, x -> x.store(motif));
            CHECK.changesNothing("store(" + motif + ") of no text", x -> { }, Check.NO_INDEX, x -> x.store(motif));
        }
        CHECK.changesNothing("store(0) of no text", x -> { }, Check.NO_STATE, x -> x.store(0));
        CHECK.changesNothing("store(0) of half an order", x -> Check.write(x, "ls0"), Check.NO_STATE, x -> x.store(0));
        CHECK.changesNothing("store(0) of no order", x -> Check.write(x, "l l"), Check.NO_STATE, x -> x.store(0));
        for (int motif = 0; motif < 4; motif++) {
            for (int inside = 0; inside < 4; inside++) {
                int number = motif;
                String[] texts = {"m" + inside, "lm" + inside + "r", "2(m" + inside + ")", "h3s12m" + inside};
                for (String text : texts) {
                    if (inside >= motif) {
                        CHECK.changesNothing("store(" + motif + ") of " + text, x -> Check.write(x, text), Check.NO_STATE,
                                x -> x.store(number));
                    } else {
                        RugPunch x = new RugPunch();
                        Check.write(x, text);
                        CHECK.same("store(" + motif + ") of " + text, x.store(motif), text.length());
                    }
                }
            }
        }
        RugPunch x = new RugPunch();
        Check.write(x, "h3s03j03c3");
        CHECK.same("other digits are no motifs", x.store(0), 10);
        Check.write(x, "m0m1m2");
        CHECK.same("store(3) of all lower ones", x.store(3), 6);
        CHECK.noState("store(2) of them", () -> x.store(2));
        Check.fullText(x);
        CHECK.same("store(0) of a full text, in place of another", x.store(0), 120);
        CHECK.same("the text stays", x.clearText(), 120);
    }

    private static void p49Run() {
        for (int motif : NO_MOTIFS) {
            CHECK.changesNothing("run(" + motif + ")", Check::busy, Check.NO_INDEX, x -> x.run(motif));
        }
        for (int motif = 1; motif < 4; motif++) {
            int number = motif;
            CHECK.changesNothing("run(" + motif + ") without a motif", Check::busy, Check.NO_STATE, x -> x.run(number));
        }
        RugPunch x = new RugPunch();
        for (int motif = 0; motif < 4; motif++) {
            Check.store(x, motif, "r");
        }
        Check.write(x, "s");
        CHECK.same("run(0), the first", x.run(0), 0);
        CHECK.same("run(3), the last", x.run(3), 0);
        CHECK.same("heading()", x.heading(), 2);
        CHECK.same("the text counts for nothing", x.errorPosition(), 1);
        RugPunch y = new RugPunch();
        Check.store(y, 0, "s12");
        CHECK.same("a run of a broken order is an action", y.run(0), 1);
        CHECK.same("undo() of it", y.undo(), 1);
    }

    private static void p50RunText() {
        CHECK.changesNothing("runText() of no text", x -> { }, Check.NO_STATE, RugPunch::runText);
        CHECK.changesNothing("runText() of half an order", x -> {
            Check.busy(x);
            x.append('s');
        }, Check.NO_STATE, RugPunch::runText);
        CHECK.changesNothing("runText() of a group that is not ended", x -> Check.write(x, "l2(l"), Check.NO_STATE,
                RugPunch::runText);
        RugPunch x = new RugPunch();
        Check.fullText(x);
        x.thread(0);
        CHECK.same("runText() of a full text", x.runText(), 39 - 12);
        CHECK.same("the text stays", x.clearText(), 120);
    }

    private static int broken(RugPunch x, String text) {
        Check.write(x, text);
        return x.runText();
    }

    private static void p50BrokenOrders() {
        RugPunch x = new RugPunch();
        x.thread(0);
        CHECK.same("s12 of twelve stitches", broken(x, "s12"), 0);
        CHECK.same("s01 at a loop", broken(x, "s01"), 1);
        CHECK.same("j11 of eleven cells", broken(x, "rrj11"), 0);
        CHECK.same("j12 of eleven cells", broken(x, "rrj12"), 1);
        CHECK.same("j01 of none", broken(x, "j01"), 1);
        RugPunch y = new RugPunch();
        y.jump(1);
        CHECK.same("s12 of eleven stitches", broken(y, "c0s12"), 1);
        CHECK.same("what could be sewn is there", y.loopOf(10), 0);
        CHECK.holds("up to the border", y.isSkipped(11));
        for (int left = 38; left <= 41; left++) {
            RugPunch z = new RugPunch();
            Check.leave(z, 1, left);
            z.cut();
            CHECK.same("c1 with " + (left - 20), broken(z, "c1"), left < 40 ? 1 : 0);
            CHECK.same("threaded()", z.threaded(), left < 40 ? -1 : 1);
            CHECK.same("coneOf(1)", z.coneOf(1), left < 40 ? left - 20 : left - 40);
        }
        RugPunch w = new RugPunch();
        Check.leave(w, 1, 19);
        Check.tighten(w, 4);
        CHECK.same("c1 that is threaded, with 19", broken(w, "c1"), 1);
        CHECK.same("nothing is cut by it", w.threaded() + w.coneOf(1) + w.tension(), 1 + 19 + 4);
        CHECK.same("e with 19", broken(w, "e"), 0);
        CHECK.same("x with 9", broken(w, "x"), 0);
        CHECK.same("e, x without a thread", broken(w, "ex"), 2);
        CHECK.same("m0 to m3 without motifs", broken(w, "m0m1m2m3"), 4);
    }

    private static void p50EachOrder() {
        RugPunch x = new RugPunch();
        CHECK.same("h9", broken(x, "h9"), 0);
        CHECK.same("height() by h9", x.height(), 9);
        CHECK.same("h1", broken(x, "h1"), 0);
        CHECK.same("height() by h1", x.height(), 1);
        CHECK.same("l", broken(x, "l"), 0);
        CHECK.same("heading() by l from 0", x.heading(), 3);
        CHECK.same("r", broken(x, "r"), 0);
        CHECK.same("heading() by r from 3", x.heading(), 0);
        CHECK.same("c0", broken(x, "c0"), 0);
        CHECK.same("threaded() by c0", x.threaded(), 0);
        CHECK.same("c4", broken(x, "c4"), 0);
        CHECK.same("threaded() by c4", x.threaded(), 4);
        CHECK.same("coneOf(0) by c0c4", x.coneOf(0), 7960);
        CHECK.same("s01", broken(x, "s01"), 0);
        CHECK.same("needle() by s01", x.needle(), 1);
        CHECK.same("j10", broken(x, "j10"), 0);
        CHECK.same("needle() by j10", x.needle(), 11);
        CHECK.same("tension() by s01j10", x.tension(), 11);
        CHECK.same("e", broken(x, "e"), 0);
        CHECK.same("tension() by e", x.tension(), 0);
        CHECK.same("wasteOf(4) by e", x.wasteOf(4), 10);
        CHECK.same("x", broken(x, "x"), 0);
        CHECK.same("threaded() by x", x.threaded(), -1);
        CHECK.same("2(r)", broken(x, "2(r)"), 0);
        CHECK.same("heading() by 2(r)", x.heading(), 2);
        CHECK.same("9(r)", broken(x, "9(r)"), 0);
        CHECK.same("heading() by 9(r)", x.heading(), 3);
        CHECK.same("3(j01r), two of them over the border", broken(x, "3(j01r)"), 2);
        CHECK.same("needle() by 3(j01r)", x.needle(), 23);
        CHECK.same("undo() of a run", x.undo(), 12);
        CHECK.same("needle() of before", x.needle(), 11);
        CHECK.same("heading() of before", x.heading(), 3);
    }

    private static void p50MotifsInMotifs() {
        RugPunch x = new RugPunch();
        Check.store(x, 0, "rx");
        Check.store(x, 1, "m0m0x");
        Check.store(x, 2, "2(m1)x");
        Check.store(x, 3, "m22(m2m0)m1");
        CHECK.same("run(0)", x.run(0), 1);
        CHECK.same("heading() by one r", x.heading(), 1);
        CHECK.same("run(1)", x.run(1), 3);
        CHECK.same("heading() by two more", x.heading(), 3);
        CHECK.same("run(2)", x.run(2), 7);
        CHECK.same("heading() by four more", x.heading(), 3);
        CHECK.same("run(3)", x.run(3), 7 + 2 * 8 + 3);
        CHECK.same("heading() by sixteen more", x.heading(), 3);
        CHECK.same("the text with the deepest", broken(x, "2(m3)r"), 52);
        CHECK.same("heading() by thirty-three more", x.heading(), 0);
        RugPunch gap = new RugPunch();
        Check.store(gap, 3, "m1m0");
        CHECK.same("a motif with motifs that are not stored", gap.run(3), 2);
        Check.store(gap, 0, "l");
        CHECK.same("one of them is stored now", gap.run(3), 1);
        CHECK.same("heading() by it", gap.heading(), 3);
        gap.undo();
        gap.undo();
        CHECK.same("and is not any more", gap.run(3), 2);
    }

    /** 399, 400 and 401 orders, of which the last one is a turn. */
    private static void p50FourHundredOrders() {
        for (int before = 397; before <= 401; before++) {
            RugPunch x = new RugPunch();
            // The four groups are 364 orders: each counts as one, and ten within it nine times.
            String text = "9(eeeeeeeeee)9(eeeeeeeeee)9(eeeeeeeeee)9(eeeeeeeeee)" + "e".repeat(before - 364) + "r";
            CHECK.same("broken ones with " + before + " ahead", broken(x, text), Math.min(before, 400) - 4);
            CHECK.same("heading() with " + before + " ahead", x.heading(), before < 400 ? 1 : 0);
        }
        RugPunch x = new RugPunch();
        Check.store(x, 0, "9(llllllllll)9(llllllllll)9(llllllllll)9(llllllllll)" + "l".repeat(34));
        Check.write(x, "m0r");
        CHECK.same("a motif, its 398 orders, and a turn", x.runText(), 0);
        CHECK.same("heading() by them", x.heading(), (4 * 400 - 394 + 1) % 4);
        Check.write(x, "lm0r");
        x.place(0, 0);
        x.runText();
        CHECK.same("one order more", x.heading(), (4 * 400 - 395) % 4);
        Check.write(x, "9(m0)");
        x.place(0, 0);
        x.runText();
        CHECK.same("a group, a motif, and 398 orders", x.heading(), (4 * 400 - 394) % 4);
        Check.write(x, "ll9(m0)");
        x.place(0, 0);
        x.runText();
        CHECK.same("the limit within the motif", x.heading(), (4 * 400 - 2 - 392) % 4);
        RugPunch stitches = new RugPunch();
        Check.write(stitches, "9(xxxxxxxxxx)9(xxxxxxxxxx)9(xxxxxxxxxx)9(xxxxxxxxxx)" + "x".repeat(33) + "h9c0s12j01");
        CHECK.same("an order of twelve stitches counts as one", stitches.runText(), 393);
        CHECK.same("the 400th is done", stitches.needle(), 11);
        CHECK.same("a run behind it has its own 400", broken(stitches, "j12"), 1);
    }

    private static void p51Undo() {
        CHECK.changesNothing("undo() of a new object", x -> { }, Check.NO_STATE, RugPunch::undo);
        CHECK.changesNothing("undo() behind restore", x -> {
            Check.busy(x);
            x.restore(0);
        }, Check.NO_STATE, RugPunch::undo);
        CHECK.changesNothing("undo() once more", x -> {
            x.turnLeft();
            x.undo();
        }, Check.NO_STATE, RugPunch::undo);
        RugPunch x = new RugPunch();
        x.turnLeft();
        CHECK.same("undo() of the only one", x.undo(), 0);
        CHECK.same("heading()", x.heading(), 0);
        x.turnRight();
        x.turnRight();
        x.undo();
        x.turnLeft();
        CHECK.same("undo() goes back to what was undone to", x.undo(), 1);
        CHECK.same("heading() then", x.heading(), 1);
    }

    private static void p51EverythingComesBack() {
        Check.Calls[] actions = {
            x -> x.setPlan(143, 0), x -> x.fillPlan(0, 143, 4), x -> x.thread(0), RugPunch::cut, x -> x.sew(12),
            x -> x.jump(12), RugPunch::turnLeft, RugPunch::turnRight, RugPunch::ease, x -> x.setHeight(1),
            x -> x.wind(0, 9999), x -> x.mend(38), x -> x.unpick(0), x -> x.shear(1), x -> x.store(1), x -> x.run(0),
            RugPunch::runText,
        };
        for (int i = 0; i < actions.length; i++) {
            RugPunch x = new RugPunch();
            RugPunch twin = new RugPunch();
            Check.busy(x);
            Check.busy(twin);
            actions[i].on(x);
            CHECK.holds("action " + i + " changes the state", !Check.picture(x).equals(Check.picture(twin)));
            CHECK.same("undo() of action " + i, x.undo(), twin.undo() + 1);
            twin = new RugPunch();
            Check.busy(twin);
            CHECK.holds("undo() of action " + i + " brings all back", Check.everything(x).equals(Check.everything(twin)));
        }
        RugPunch x = new RugPunch();
        x.jump(3);
        x.place(3, 0);
        CHECK.same("a place where the needle is counts", x.undo(), 1);
        x.setHeight(4);
        CHECK.same("a height that is there counts", x.undo(), 1);
        x.fillPlan(0, 143, RugPunch.NONE);
        CHECK.same("a plan that is there counts", x.undo(), 1);
        x.setPlan(0, RugPunch.NONE);
        CHECK.same("a colour that is there counts", x.undo(), 1);
        x.shear(9);
        CHECK.same("shearing nothing counts", x.undo(), 1);
        Check.store(x, 0, "h4");
        x.store(0);
        CHECK.same("storing the same counts", x.undo(), 2);
        x.run(0);
        CHECK.same("a run that does nothing counts", x.undo(), 2);
        x.thread(0);
        x.ease();
        x.jump(12);
        x.jump(12);
        x.undo();
        CHECK.same("a jump of no cells counts", x.undo(), 4);
        knotsComeBack();
    }

    private static void knotsComeBack() {
        RugPunch x = new RugPunch();
        Check.leave(x, 0, 7010);
        x.jump(2);
        CHECK.same("knots()", x.knots(), 1);
        CHECK.same("drawnByRug(0)", x.drawnByRug(0), 1006);
        x.save(0);
        x.undo();
        CHECK.same("knots() of before", x.knots(), 0);
        CHECK.same("drawnByRug(0) of before", x.drawnByRug(0), 990);
        CHECK.same("drawnByCone(0) of before", x.drawnByCone(0), 990);
        x.restore(0);
        CHECK.same("knots() of the save slot", x.knots(), 1);
        CHECK.same("drawnByRug(0) of the save slot", x.drawnByRug(0), 1006);
    }

    private static void p51FourteenStates() {
        for (int actions = 12; actions <= 30; actions++) {
            RugPunch x = new RugPunch();
            for (int i = 0; i < actions; i++) {
                x.wind(2, 1);
            }
            int most = Math.min(actions, 14);
            for (int left = most - 1; left >= 0; left--) {
                CHECK.same("undo() behind " + actions, x.undo(), left);
            }
            CHECK.same("the oldest of " + actions, x.coneOf(2), 8000 + actions - most);
            CHECK.noState("undo() behind all of " + actions, x::undo);
            CHECK.same("and it stays", x.coneOf(2), 8000 + actions - most);
        }
    }
}
