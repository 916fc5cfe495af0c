/** Promises 61 and 62: save slots. */
public final class SaveTest {
    private static final Check CHECK = new Check();

    public static void main(String[] args) {
        refused();
        slots();
        textAndMotifs();
        CHECK.finish("SaveTest");
    }

    private static void refused() {
        RugPunch x = new RugPunch();
        int[] none = {-1, 2, Integer.MIN_VALUE, Integer.MAX_VALUE};
        for (int slot : none) {
            CHECK.noCell("save", () -> x.save(slot));
            CHECK.noCell("restore", () -> x.restore(slot));
        }
        CHECK.noState("restore(0) of nothing", () -> x.restore(0));
        CHECK.same("save(1)", x.save(1), 0);
        CHECK.noState("restore(0) still", () -> x.restore(0));
        x.turnLeft();
        CHECK.noState("restore(0) forgets nothing", () -> x.restore(0));
        CHECK.same("undo()", x.undo(), 0);
    }

    private static void slots() {
        RugPunch x = new RugPunch();
        x.fillPlan(0, 50, 2);
        x.thread(2);
        x.sew(11);
        String first = Check.picture(x);
        CHECK.same("save(0)", x.save(0), 10);
        CHECK.same("save is no action", x.undo(), 2);
        x.thread(3);
        x.sew(4);
        String second = Check.picture(x);
        CHECK.same("save(1)", x.save(1), 4);
        CHECK.same("restore(0)", x.restore(0), 10);
        CHECK.holds("the state of the slot 0", Check.picture(x).equals(first));
        CHECK.noState("restore forgets the remembered states", x::undo);
        x.unpick(0);
        x.fillPlan(0, 143, 1);
        CHECK.same("actions after restore are remembered", x.undo(), 1);
        CHECK.same("restore(1)", x.restore(1), 4);
        CHECK.holds("the state of the slot 1", Check.picture(x).equals(second));
        CHECK.same("restore(0) again", x.restore(0), 10);
        CHECK.holds("the save slot keeps it", Check.picture(x).equals(first));
        x.unpick(4);
        CHECK.same("save(0) in place of the other", x.save(0), 9);
        CHECK.same("restore(0) of the new one", x.restore(0), 9);
    }

    private static void textAndMotifs() {
        RugPunch x = new RugPunch();
        Check.store(x, 0, "lr");
        x.save(0);
        Check.store(x, 0, "lrlr");
        Check.write(x, "xyz");
        x.restore(0);
        CHECK.same("motifs are part of the state", x.motifLength(0), 2);
        CHECK.same("the text is not", x.clearText(), 3);
    }
}
