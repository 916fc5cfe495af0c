/** Promise 51: undo, and which calls are actions. */
public final class UndoTest {
    private static final Check CHECK = new Check();

    /** An action on an object on which it throws no exception. */
    interface Action {
        void on(RugPunch x);
    }

    public static void main(String[] args) {
        eachAction();
        notActions();
        fourteen();
        motifsAreState();
        knotsAreState();
        CHECK.finish("UndoTest");
    }

    /** A rug with something of everything. */
    private static RugPunch busyRug() {
        RugPunch x = new RugPunch();
        x.fillPlan(0, 30, 1);
        Check.store(x, 0, "s02r");
        x.thread(1);
        x.setHeight(5);
        x.sew(4);
        Check.write(x, "c2s03m0");
        return x;
    }

    private static void eachAction() {
        Action[] actions = {
            x -> x.setPlan(7, 3), x -> x.fillPlan(4, 90, 2), x -> x.thread(3), RugPunch::cut, x -> x.sew(5),
            x -> x.jump(3), RugPunch::turnLeft, RugPunch::turnRight, RugPunch::ease, x -> x.setHeight(8),
            x -> x.wind(2, 700), x -> x.mend(28), x -> x.unpick(1), x -> x.shear(2), x -> x.store(2),
            x -> x.run(0), RugPunch::runText,
        };
        for (int i = 0; i < actions.length; i++) {
            undoes(actions[i], "action " + i);
        }
        RugPunch y = busyRug();
        y.cut();
        String before = Check.picture(y);
        y.place(99, 3);
        CHECK.holds("place changes the state", !Check.picture(y).equals(before));
        y.undo();
        CHECK.holds("undo of place", Check.picture(y).equals(before));
    }

    private static void undoes(Action action, String name) {
        RugPunch x = busyRug();
        String before = Check.picture(x);
        action.on(x);
        String after = Check.picture(x);
        CHECK.holds(name + " changes the state", !after.equals(before));
        CHECK.same("undo() of " + name, x.undo(), 5);
        CHECK.holds("undo() of " + name + " takes it back", Check.picture(x).equals(before));
        CHECK.same("the text is no state", x.errorPosition(), -1);
        action.on(x);
        CHECK.holds(name + " does the same again", Check.picture(x).equals(after));
    }

    private static void notActions() {
        RugPunch x = busyRug();
        x.whyNoStitch();
        x.couldSew();
        x.loopsBy();
        x.needleBy();
        x.yarnBy(1);
        x.simulate(3, 60);
        x.save(0);
        x.clearText();
        x.append('l');
        CHECK.noRange("sew(13)", () -> x.sew(13));
        CHECK.noState("place(0, 0)", () -> x.place(0, 0));
        CHECK.noState("run(3)", () -> x.run(3));
        CHECK.noState("unpick(100)", () -> x.unpick(100));
        CHECK.noState("wind(0, 9999) twice", () -> {
            x.wind(0, 9999);
            x.wind(0, 9999);
        });
        CHECK.same("one action more than before", x.undo(), 5);
        CHECK.same("undo is no action", x.undo(), 4);
        x.setHeight(x.height());
        CHECK.same("an action that changes nothing counts", x.undo(), 4);
        x.jump(12);
        x.jump(1);
        CHECK.same("a jump of no cells counts", x.undo(), 5);
        CHECK.same("clearText() is not taken back", x.clearText(), 1);
    }

    private static void fourteen() {
        RugPunch x = new RugPunch();
        for (int i = 0; i < 20; i++) {
            x.wind(0, 1);
        }
        for (int left = 13; left >= 0; left--) {
            CHECK.same("undo()", x.undo(), left);
            CHECK.same("coneOf(0)", x.coneOf(0), 8006 + left);
        }
        CHECK.noState("undo() without a remembered state", x::undo);
        CHECK.same("coneOf(0) stays", x.coneOf(0), 8006);
        x.wind(0, 100);
        CHECK.same("undo() after new actions", x.undo(), 0);
        for (int i = 0; i < 40; i++) {
            x.turnRight();
            x.turnRight();
            CHECK.same("undo() in between", x.undo(), Math.min(i + 1, 13));
            CHECK.same("heading()", x.heading(), (i + 1) % 4);
        }
    }

    private static void motifsAreState() {
        RugPunch x = new RugPunch();
        Check.store(x, 1, "m0l");
        Check.store(x, 1, "r");
        x.undo();
        CHECK.same("the motif of before", x.motifLength(1), 3);
        CHECK.same("motifSign(1, 2)", x.motifSign(1, 2), 'l');
        x.undo();
        CHECK.same("no motif", x.motifLength(1), 0);
        CHECK.noState("run(1)", () -> x.run(1));
    }

    private static void knotsAreState() {
        RugPunch x = new RugPunch();
        x.thread(0);
        Check.write(x, "9(eeeeeeeeee)eeeeeee");
        x.runText();
        CHECK.same("untilKnot(0)", x.untilKnot(0), 10);
        x.sew(1);
        CHECK.same("knots()", x.knots(), 1);
        x.save(0);
        x.undo();
        CHECK.same("knots() taken back", x.knots(), 0);
        CHECK.same("loopsBy() in between", x.loopsBy(), 0);
        CHECK.same("knots() by asking", x.knots(), 0);
        x.restore(0);
        CHECK.same("knots() restored", x.knots(), 1);
    }
}
