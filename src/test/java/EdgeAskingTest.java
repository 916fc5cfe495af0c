/** Promises 1 to 32: each border, each empty and each full case, and each refused call, promise by promise. */
public final class EdgeAskingTest {
    private static final Check CHECK = new Check();
    private static final int LEAST = Integer.MIN_VALUE;
    private static final int MOST = Integer.MAX_VALUE;

    public static void main(String[] args) {
        p1NewObject();
        p2Append();
        p3ClearText();
        p4FirstAndLastNumbers();
        p4EmptyAndShortTexts();
        p4SignsThatAreNotAllowed();
        p4FullText();
        p5To8Cells();
        p9To12Counts();
        p13And14Areas();
        p15Density();
        p16MeanHeight();
        p17To23Needle();
        p24To29Colours();
        p28NeededFor();
        p29UntilKnot();
        p30Knots();
        p31MotifLength();
        p32MotifSign();
        CHECK.finish("EdgeAskingTest");
    }

    private static void p1NewObject() {
        RugPunch x = new RugPunch();
        CHECK.same("density()", (double) x.density(), 0.0);
        CHECK.same("meanHeight()", x.meanHeight(), 0.0);
        CHECK.same("whyNoStitch()", x.whyNoStitch(), 1);
        CHECK.same("couldSew()", x.couldSew(), 0);
        CHECK.holds("canGo()", x.canGo());
        CHECK.holds("wouldSkip()", !x.wouldSkip());
        for (int motif = 0; motif < 4; motif++) {
            int number = motif;
            CHECK.noState("run(" + motif + ")", () -> x.run(number));
        }
        CHECK.noState("undo()", x::undo);
        CHECK.noState("restore(0)", () -> x.restore(0));
        CHECK.noState("restore(1)", () -> x.restore(1));
        CHECK.same("the text is empty", x.clearText(), 0);
        RugPunch other = new RugPunch();
        x.setPlan(0, 1);
        x.append('l');
        CHECK.same("another object has a plan of its own", other.planOf(0), -1);
        CHECK.same("another object has a text of its own", other.clearText(), 0);
    }

    private static void p2Append() {
        RugPunch x = new RugPunch();
        CHECK.same("append(0), the least", x.append(0), 1);
        CHECK.same("append(255), the most", x.append(255), 2);
        for (int c : new int[] {-1, 256, 'l' + 256, 'l' - 256, 'l' + 65536, LEAST, MOST}) {
            CHECK.changesNothing("append(" + c + ")", Check::busy, Check.NO_ARGUMENT, y -> y.append(c));
            CHECK.changesNothing("append(" + c + ") to a full text", Check::fullText, Check.NO_ARGUMENT, y -> y.append(c));
        }
        CHECK.changesNothing("append to a full text", Check::fullText, Check.NO_STATE, y -> y.append('l'));
        RugPunch y = new RugPunch();
        for (int length = 1; length <= 120; length++) {
            CHECK.same("append", y.append('l'), length);
        }
        CHECK.noState("the 121st", () -> y.append('l'));
        y.clearText();
        CHECK.same("append behind clearText()", y.append('l'), 1);
    }

    private static void p3ClearText() {
        RugPunch x = new RugPunch();
        CHECK.same("clearText() of nothing", x.clearText(), 0);
        Check.fullText(x);
        CHECK.same("clearText() of a full text", x.clearText(), 120);
        CHECK.same("clearText() again", x.clearText(), 0);
        CHECK.same("an empty text is no motif", x.errorPosition(), 0);
        Check.write(x, "s12");
        x.clearText();
        x.append('s');
        CHECK.same("nothing of the text of before comes back", x.errorPosition(), 1);
    }

    private static void p4FirstAndLastNumbers() {
        String[] motifs = {
            "s01", "s09", "s10", "s11", "s12", "j01", "j09", "j10", "j11", "j12", "c0", "c4", "h1", "h9", "m0", "m3",
            "2(l)", "9(l)", "l", "r", "x", "e", "2(s10)", "9(h1j12)", "2(l)2(l)", "s012(s01)s01",
        };
        for (String text : motifs) {
            CHECK.same("'" + text + "' is a motif", error(text), RugPunch.NONE);
        }
    }

    private static void p4EmptyAndShortTexts() {
        String[] tooSoon = {
            "", "s", "s0", "s1", "j", "j0", "j1", "c", "h", "m", "2", "9", "2(", "2(l", "2(s", "2(s0", "2(s01", "2(c",
            "2(h", "2(m", "ls", "2(l)s", "2(l)3", "2(l)3(", "2(l)3(l", "llllc",
        };
        for (String text : tooSoon) {
            CHECK.same("'" + text + "' ends too soon", error(text), text.length());
        }
    }

    private static void p4SignsThatAreNotAllowed() {
        String[] before = {
            "s2", "s00", "s13", "s19", "j3", "j00", "j13", "c5", "c9", "h0", "m4", "m9", "0", "1", "22", "2l", "2)", "2()",
            "(", ")", "l)", "2(l))", "2(2", "2(l2", "2(9(", "l(", "2((", "sl", "s0l", "ca", "h(", "m)", " ", "l ", "S",
            "s01 ", "2(l)(", "2(l)1", "s0)", "2(s)", "2(s0)", "2(c)", "s-1", "s1/", "s0:", "h:", "m/", ":", "/", "s0/", "s1:",
        };
        for (String text : before) {
            CHECK.same("the last sign of '" + text + "'", error(text), lastFault(text));
            CHECK.same("and with more behind it", error(text + "l"), lastFault(text));
        }
        for (char sign : new char[] {0, 31, 127, 128, 's' + 128, 255}) {
            CHECK.same("the sign " + (int) sign, error("" + sign), 0);
            CHECK.same("the sign " + (int) sign + " behind an order", error("l" + sign), 1);
        }
    }

    /** The fault is the last sign, but for a few whose fault is ahead of it. */
    private static int lastFault(String text) {
        return text.equals("s-1") ? 1 : text.equals("2(9(") ? 2 : text.length() - 1;
    }

    private static void p4FullText() {
        StringBuilder text = new StringBuilder("l".repeat(119));
        CHECK.same("119 orders", error(text.toString()), -1);
        CHECK.same("120 orders", error(text + "r"), -1);
        CHECK.same("the last sign is no order", error(text + "("), 119);
        CHECK.same("the last sign is half an order", error(text + "c"), 120);
        String group = "9(" + "l".repeat(117);
        CHECK.same("a group of 120 characters", error(group + ")"), -1);
        CHECK.same("a group that is not ended", error(group + "l"), 120);
        CHECK.same("a digit at the end", error("l".repeat(119) + "2"), 120);
    }

    private static int error(String text) {
        RugPunch x = new RugPunch();
        Check.write(x, text);
        return x.errorPosition();
    }

    private static void p5To8Cells() {
        for (int cell : new int[] {-1, 144, LEAST, MOST, 12 * 12 + 1, -12}) {
            CHECK.changesNothing("planOf(" + cell + ")", Check::busy, Check.NO_INDEX, x -> x.planOf(cell));
            CHECK.changesNothing("loopOf(" + cell + ")", Check::busy, Check.NO_INDEX, x -> x.loopOf(cell));
            CHECK.changesNothing("heightOf(" + cell + ")", Check::busy, Check.NO_INDEX, x -> x.heightOf(cell));
            CHECK.changesNothing("isSkipped(" + cell + ")", Check::busy, Check.NO_INDEX, x -> x.isSkipped(cell));
        }
        for (int cell : new int[] {0, 143}) {
            RugPunch x = new RugPunch();
            CHECK.same("planOf without a plan", x.planOf(cell), RugPunch.NONE);
            CHECK.same("loopOf without a loop", x.loopOf(cell), RugPunch.NONE);
            CHECK.same("heightOf without a loop", x.heightOf(cell), 0);
            CHECK.holds("isSkipped of an empty cell", !x.isSkipped(cell));
            x.setPlan(cell, 0);
            CHECK.same("planOf the first colour", x.planOf(cell), 0);
            x.setHeight(9);
            x.mend(cell);
            CHECK.same("loopOf the first colour", x.loopOf(cell), 0);
            CHECK.same("heightOf the highest", x.heightOf(cell), 9);
            CHECK.holds("isSkipped with a loop", !x.isSkipped(cell));
            x.shear(1);
            CHECK.same("heightOf the lowest", x.heightOf(cell), 1);
            x.unpick(cell);
            CHECK.same("loopOf an unpicked cell", x.loopOf(cell), RugPunch.NONE);
            CHECK.same("heightOf an unpicked cell", x.heightOf(cell), 0);
            x.place(cell, cell == 0 ? 0 : 2);
            x.thread(4);
            for (int turn = 0; turn < 6; turn++) {
                x.turnLeft();
            }
            x.sew(1);
            CHECK.holds("isSkipped", x.isSkipped(cell));
            CHECK.same("loopOf a skipped cell", x.loopOf(cell), RugPunch.NONE);
            CHECK.same("heightOf a skipped cell", x.heightOf(cell), 0);
            CHECK.same("planOf a skipped cell", x.planOf(cell), 0);
        }
    }

    /** The whole canvas missing, right, wrong and skipped. */
    private static void p9To12Counts() {
        RugPunch x = new RugPunch();
        counts(x, 0, 0, 0, 0);
        x.fillPlan(0, 143, 0);
        counts(x, 0, 144, 0, 0);
        x.setHeight(1);
        for (int cell = 0; cell < 144; cell++) {
            x.mend(cell);
        }
        counts(x, 144, 0, 0, 0);
        CHECK.same("density() of a full canvas", (double) x.density(), 1.0);
        CHECK.same("meanHeight() of a full canvas", x.meanHeight(), 1.0);
        x.fillPlan(0, 143, 1);
        counts(x, 0, 0, 144, 0);
        x.fillPlan(0, 143, -1);
        counts(x, 0, 0, 144, 0);
        RugPunch y = new RugPunch();
        Check.write(y, "lrlrlr9(s01lrlr)s02");
        for (int row = 0; row < 12; row++) {
            y.place(12 * row, 0);
            y.thread(0);
            y.runText();
            y.cut();
        }
        counts(y, 0, 0, 12, 120);
        y.fillPlan(0, 143, 0);
        counts(y, 12, 132, 0, 120);
    }

    private static void counts(RugPunch x, int right, int missing, int wrong, int skipped) {
        CHECK.same("right()", x.right(), right);
        CHECK.same("missing()", x.missing(), missing);
        CHECK.same("wrong()", x.wrong(), wrong);
        CHECK.same("skipped()", x.skipped(), skipped);
    }

    private static void p13And14Areas() {
        for (int colour : new int[] {-1, 5, LEAST, MOST}) {
            CHECK.changesNothing("areasBySpreading", Check::busy, Check.NO_INDEX, x -> x.areasBySpreading(colour));
            CHECK.changesNothing("areasByJoining", Check::busy, Check.NO_INDEX, x -> x.areasByJoining(colour));
        }
        RugPunch x = new RugPunch();
        for (int colour = 0; colour < 5; colour++) {
            areas(x, colour, 0);
        }
        x.setPlan(143, 4);
        areas(x, 4, 1);
        x.setPlan(130, 4);
        areas(x, 4, 2);
        x.setPlan(131, 4);
        areas(x, 4, 1);
        x.fillPlan(0, 143, 0);
        areas(x, 0, 1);
        areas(x, 4, 0);
        x.fillPlan(60, 71, -1);
        areas(x, 0, 2);
        x.fillPlan(60, 71, 1);
        areas(x, 1, 1);
        RugPunch ends = new RugPunch();
        for (int row = 0; row < 11; row++) {
            ends.setPlan(12 * row + 11, 2);
            ends.setPlan(12 * row + 12, 2);
        }
        areas(ends, 2, 2);
        RugPunch ring = new RugPunch();
        ring.fillPlan(0, 143, 3);
        ring.fillPlan(13, 130, -1);
        areas(ring, 3, 1);
        ring.fillPlan(26, 117, 3);
        areas(ring, 3, 2);
        RugPunch sewn = new RugPunch();
        sewn.thread(1);
        sewn.sew(3);
        areas(sewn, 1, 0);
    }

    private static void areas(RugPunch x, int colour, int due) {
        CHECK.same("areasBySpreading(" + colour + ")", x.areasBySpreading(colour), due);
        CHECK.same("areasByJoining(" + colour + ")", x.areasByJoining(colour), due);
        CHECK.same("areasBySpreading(" + colour + ") again", x.areasBySpreading(colour), due);
    }

    private static void p15Density() {
        RugPunch x = new RugPunch();
        x.fillPlan(0, 143, 0);
        x.setHeight(1);
        for (int loops = 0; loops <= 144; loops++) {
            CHECK.holds("density() with " + loops, x.density() == (float) loops / 144);
            if (loops < 144) {
                x.mend(loops);
            }
        }
        RugPunch skip = new RugPunch();
        skip.thread(0);
        Check.tighten(skip, 10);
        skip.sew(1);
        CHECK.holds("a skipped cell has no loop", skip.density() == 0.0f);
    }

    private static void p16MeanHeight() {
        RugPunch x = new RugPunch();
        CHECK.same("meanHeight() without loops", x.meanHeight(), 0.0);
        x.fillPlan(0, 2, 0);
        x.setHeight(9);
        x.mend(0);
        CHECK.same("meanHeight() of one loop", x.meanHeight(), 9.0);
        x.setHeight(1);
        x.mend(1);
        x.mend(2);
        CHECK.same("meanHeight() that is no whole number", x.meanHeight(), 11.0 / 3.0);
        x.unpick(0);
        x.unpick(1);
        x.unpick(2);
        CHECK.same("meanHeight() without loops again", x.meanHeight(), 0.0);
        x.thread(0);
        Check.tighten(x, 10);
        x.sew(1);
        CHECK.same("meanHeight() with a skipped cell alone", x.meanHeight(), 0.0);
    }

    private static void p17To23Needle() {
        RugPunch x = new RugPunch();
        x.place(143, 3);
        CHECK.same("needle() at the last cell", x.needle(), 143);
        CHECK.same("heading() that is the last", x.heading(), 3);
        CHECK.same("threaded() without a thread", x.threaded(), RugPunch.NONE);
        x.thread(0);
        CHECK.same("threaded() with the first colour", x.threaded(), 0);
        x.thread(4);
        CHECK.same("threaded() with the last colour", x.threaded(), 4);
        CHECK.same("height() at first", x.height(), 4);
        x.setHeight(1);
        CHECK.same("height() that is the lowest", x.height(), 1);
        x.setHeight(9);
        CHECK.same("height() that is the highest", x.height(), 9);
        for (int tension = 0; tension < 40; tension += 2) {
            CHECK.same("tension()", x.tension(), tension);
            CHECK.holds("wouldSkip() with " + tension, x.wouldSkip() == (tension >= 10));
            x.turnRight();
        }
        x.cut();
        CHECK.same("tension() that is cut", x.tension(), 0);
        CHECK.holds("wouldSkip() that is cut", !x.wouldSkip());
        x.place(0, 3);
        CHECK.holds("canGo() over the border", !x.canGo());
        x.turnRight();
        CHECK.holds("canGo() along the border", x.canGo());
    }

    private static void p24To29Colours() {
        for (int colour : new int[] {-1, 5, LEAST, MOST}) {
            CHECK.changesNothing("coneOf", Check::busy, Check.NO_INDEX, x -> x.coneOf(colour));
            CHECK.changesNothing("drawnByCone", Check::busy, Check.NO_INDEX, x -> x.drawnByCone(colour));
            CHECK.changesNothing("drawnByRug", Check::busy, Check.NO_INDEX, x -> x.drawnByRug(colour));
            CHECK.changesNothing("wasteOf", Check::busy, Check.NO_INDEX, x -> x.wasteOf(colour));
            CHECK.changesNothing("neededFor", Check::busy, Check.NO_INDEX, x -> x.neededFor(colour));
            CHECK.changesNothing("untilKnot", Check::busy, Check.NO_INDEX, x -> x.untilKnot(colour));
        }
        for (int colour = 0; colour < 5; colour++) {
            RugPunch x = new RugPunch();
            yarn(x, colour, 8000, 0, 0);
            Check.leave(x, colour, 3);
            yarn(x, colour, 3, 8000, 7980);
            CHECK.same("ease() with 3 left", x.ease(), 0);
            yarn(x, colour, 0, 8003, 7983);
            x.wind(colour, 9999);
            yarn(x, colour, 9999, 8003, 7983);
            yarn(x, (colour + 1) % 5, 8000, 0, 0);
        }
    }

    private static void yarn(RugPunch x, int colour, int cone, int drawn, int waste) {
        CHECK.same("coneOf(" + colour + ")", x.coneOf(colour), cone);
        CHECK.same("drawnByCone(" + colour + ")", x.drawnByCone(colour), drawn);
        CHECK.same("drawnByRug(" + colour + ")", x.drawnByRug(colour), drawn);
        CHECK.same("wasteOf(" + colour + ")", x.wasteOf(colour), waste);
        CHECK.same("untilKnot(" + colour + ")", x.untilKnot(colour), 1000 - drawn % 1000);
    }

    private static void p28NeededFor() {
        RugPunch x = new RugPunch();
        CHECK.same("neededFor(0) without a plan", x.neededFor(0), 0);
        x.fillPlan(0, 143, 4);
        CHECK.same("neededFor(0) with a plan of another colour", x.neededFor(0), 0);
        for (int height = 1; height <= 9; height++) {
            x.setHeight(height);
            CHECK.same("neededFor(4) of all cells", x.neededFor(4), 144 * (2 * height + 4));
        }
        x.place(143, 2);
        x.thread(0);
        x.sew(1);
        CHECK.same("a wrong cell is not missing", x.neededFor(4), 143 * 22);
        Check.tighten(x, 10);
        x.sew(1);
        CHECK.same("a skipped cell is missing", x.neededFor(4), 143 * 22);
        Check.leave(x, 4, 0);
        CHECK.same("what is needed, not what the cone has", x.neededFor(4), 143 * 22);
    }

    private static void p29UntilKnot() {
        RugPunch x = new RugPunch();
        CHECK.same("untilKnot(2) on a new cone", x.untilKnot(2), 1000);
        Check.leave(x, 2, 7001);
        CHECK.same("drawn", x.drawnByCone(2), 1000);
        CHECK.same("untilKnot(2) with a whole thousand", x.untilKnot(2), 1000);
        RugPunch y = new RugPunch();
        Check.leave(y, 2, 3);
        y.ease();
        y.wind(2, 5000);
        CHECK.same("drawn of what was wound later, too", y.drawnByCone(2), 8003);
        CHECK.same("untilKnot(2) with 8003", y.untilKnot(2), 997);
        y.setHeight(1);
        for (int step = 0; step < 9; step++) {
            y.ease();
        }
        CHECK.same("untilKnot(2) with 8093", y.untilKnot(2), 907);
    }

    private static void p30Knots() {
        RugPunch x = new RugPunch();
        CHECK.same("knots() at first", x.knots(), 0);
        Check.leave(x, 0, 7010);
        x.jump(1);
        CHECK.same("knots() with 998", x.knots(), 0);
        x.jump(1);
        CHECK.same("knots() with 1006", x.knots(), 1);
        Check.leave(x, 1, 6010);
        x.jump(2);
        CHECK.same("knots() of two cones", x.knots(), 2);
        x.cut();
        CHECK.same("knots() that went through stay", x.knots(), 2);
    }

    private static void p31MotifLength() {
        for (int motif : new int[] {-1, 4, LEAST, MOST}) {
            CHECK.changesNothing("motifLength(" + motif + ")", Check::busy, Check.NO_INDEX, x -> x.motifLength(motif));
        }
        RugPunch x = new RugPunch();
        Check.fullText(x);
        x.store(0);
        x.store(3);
        CHECK.same("motifLength(0) of a full text", x.motifLength(0), 120);
        CHECK.same("motifLength(1) without a motif", x.motifLength(1), 0);
        CHECK.same("motifLength(3) of a full text", x.motifLength(3), 120);
        Check.store(x, 3, "l");
        CHECK.same("motifLength(3) of one sign", x.motifLength(3), 1);
    }

    private static void p32MotifSign() {
        for (int motif : new int[] {-1, 4, LEAST, MOST}) {
            CHECK.changesNothing("motifSign(" + motif + ", 0)", Check::busy, Check.NO_INDEX, x -> x.motifSign(motif, 0));
        }
        for (int place : new int[] {-1, 4, 120, LEAST, MOST}) {
            CHECK.changesNothing("motifSign(0, " + place + ")", Check::busy, Check.NO_INDEX, x -> x.motifSign(0, place));
        }
        CHECK.changesNothing("motifSign(3, 0) without a motif", Check::busy, Check.NO_INDEX, x -> x.motifSign(3, 0));
        RugPunch x = new RugPunch();
        String text = "2(" + "l".repeat(116) + "x)";
        Check.store(x, 3, text);
        x.clearText();
        for (int place = 0; place < 120; place++) {
            CHECK.same("motifSign(3, " + place + ")", x.motifSign(3, place), text.charAt(place));
        }
        CHECK.noCell("motifSign(3, 120)", () -> x.motifSign(3, 120));
        Check.store(x, 3, "rl");
        CHECK.same("the last sign of the new one", x.motifSign(3, 1), 'l');
        CHECK.noCell("no sign of the one before", () -> x.motifSign(3, 2));
    }
}
