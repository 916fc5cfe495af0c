/** Compares answers with the ones that are due, and counts. */
final class Check {
    /** A call that may throw. */
    interface Call {
        void make();
    }

    /** Calls on an object. */
    interface Calls {
        void on(RugPunch x);
    }

    static final Class<?> NO_INDEX = IndexOutOfBoundsException.class;
    static final Class<?> NO_ARGUMENT = IllegalArgumentException.class;
    static final Class<?> NO_STATE = IllegalStateException.class;

    private int passed;
    private int failed;

    void same(String what, long got, long due) {
        note(got == due, what + " answered " + got + ", due is " + due);
    }

    void same(String what, double got, double due) {
        note(got == due, what + " answered " + got + ", due is " + due);
    }

    void holds(String what, boolean truth) {
        note(truth, what + " does not hold");
    }

    void noCell(String what, Call call) {
        refused(what, call, IndexOutOfBoundsException.class);
    }

    void noRange(String what, Call call) {
        refused(what, call, IllegalArgumentException.class);
    }

    void noState(String what, Call call) {
        refused(what, call, IllegalStateException.class);
    }

    /** The class has to be the very one: the machine's own exceptions are classes below it. */
    private void refused(String what, Call call, Class<?> due) {
        Class<?> got = null;
        try {
            call.make();
        } catch (RuntimeException e) {
            got = e.getClass();
        }
        note(got == due, what + " threw " + got + ", due is " + due);
    }

    /** A call that throws changes nothing: all that can be told later is as on a twin without the call. */
    void changesNothing(String what, Calls start, Class<?> due, Calls call) {
        RugPunch x = new RugPunch();
        RugPunch twin = new RugPunch();
        start.on(x);
        start.on(twin);
        refused(what, () -> call.on(x), due);
        note(everything(x).equals(everything(twin)), what + " was refused and changed something");
    }

    private void note(boolean good, String otherwise) {
        if (good) {
            passed++;
        } else {
            failed++;
            System.out.println("  " + otherwise);
        }
    }

    void finish(String name) {
        System.out.println(name + ": " + passed + " checks passed, " + failed + " failed");
        if (failed != 0) {
            System.exit(1);
        }
    }

    /** Puts a text into the buffer, in place of the one that there is. */
    static void write(RugPunch x, String text) {
        x.clearText();
        for (int i = 0; i < text.length(); i++) {
            x.append(text.charAt(i));
        }
    }

    static void store(RugPunch x, int motif, String text) {
        write(x, text);
        x.store(motif);
    }

    /** All that can be told of an object, the text, what undo brings back and the save slots among it; it is used up. */
    static String everything(RugPunch x) {
        StringBuilder all = new StringBuilder(picture(x));
        all.append(x.errorPosition()).append(' ');
        if (x.errorPosition() == RugPunch.NONE) {
            all.append(x.needleBy()).append(' ').append(x.loopsBy()).append(' ');
        }
        all.append(x.clearText()).append(' ');
        for (int step = 0; step < 20; step++) {
            try {
                all.append(x.undo()).append(picture(x));
            } catch (IllegalStateException e) {
                break;
            }
        }
        for (int slot = 0; slot < 2; slot++) {
            try {
                all.append(x.restore(slot)).append(picture(x));
            } catch (IllegalStateException e) {
                all.append("nothing saved");
            }
        }
        return all.toString();
    }

    /**
     * Brings the cone of a colour to just so many millimetres, up to 7980 and on a new cone; the colour is
     * threaded then, the tension is 0, no knot has come, and the text is empty.
     */
    static void leave(RugPunch x, int colour, int millimetres) {
        if (millimetres % 10 != 0) {
            x.wind(colour, millimetres % 10);
        }
        x.thread(colour);
        write(x, "9(eeeeeeeeee)");
        while (x.coneOf(colour) - 900 >= millimetres) {
            x.runText();
        }
        write(x, "e");
        while (x.coneOf(colour) > millimetres) {
            x.runText();
        }
        x.clearText();
    }

    /** Something of everything: a plan, loops, a skipped cell, a motif, a save slot, ten remembered states, a text. */
    static void busy(RugPunch x) {
        x.fillPlan(0, 38, 1);
        store(x, 0, "s02r");
        x.thread(1);
        x.setHeight(7);
        x.sew(6);
        x.save(0);
        x.turnRight();
        x.unpick(2);
        x.ease();
        x.wind(3, 9999);
        x.wind(4, 7);
        write(x, "c2s03m0j01");
    }

    /** A text of 120 characters that is a motif. */
    static void fullText(RugPunch x) {
        write(x, "s01".repeat(39) + "lrx");
    }

    /** Brings the tension from 0 to so much: a jump over one cell for 1, a turn for 2; the needle is threaded. */
    static void tighten(RugPunch x, int tension) {
        if (tension % 2 != 0) {
            x.jump(1);
        }
        for (int turn = 0; turn < tension / 2; turn++) {
            x.turnLeft();
        }
    }

    /** All that the asking calls tell of the state, but for the text. */
    static String picture(RugPunch x) {
        StringBuilder all = new StringBuilder();
        for (int cell = 0; cell < 144; cell++) {
            all.append(x.planOf(cell)).append(' ').append(x.loopOf(cell)).append(' ');
            all.append(x.heightOf(cell)).append(' ').append(x.isSkipped(cell)).append(' ');
        }
        all.append(x.needle()).append(' ').append(x.heading()).append(' ').append(x.threaded()).append(' ');
        all.append(x.height()).append(' ').append(x.tension()).append(' ').append(x.knots()).append(' ');
        for (int colour = 0; colour < 5; colour++) {
            all.append(x.coneOf(colour)).append(' ').append(x.drawnByCone(colour)).append(' ');
            all.append(x.drawnByRug(colour)).append(' ').append(x.wasteOf(colour)).append(' ');
        }
        for (int motif = 0; motif < 4; motif++) {
            for (int place = 0; place < x.motifLength(motif); place++) {
                all.append((char) x.motifSign(motif, place));
            }
            all.append(';');
        }
        return all.toString();
    }
}
