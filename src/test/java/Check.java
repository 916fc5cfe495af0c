/** Compares answers with the ones that are due, and counts. */
final class Check {
    /** A call that may throw. */
    interface Call {
        void make();
    }

    private int passed;
    private int failed;

    void same(String what, long got, long due) {
        note(got == due, what + " answered " + got + ", due is " + due);
    }

    void same(String what, double got, double due) {
        note(got == due, what + " answered " + got + ", due is " + due);
    }

    void holds(String what, boolean truth) {
        note(truth, what + " does not hold");
    }

    void noCell(String what, Call call) {
        refused(what, call, IndexOutOfBoundsException.class);
    }

    void noRange(String what, Call call) {
        refused(what, call, IllegalArgumentException.class);
    }

    void noState(String what, Call call) {
        refused(what, call, IllegalStateException.class);
    }

    /** The class has to be the very one: the machine's own exceptions are classes below it. */
    private void refused(String what, Call call, Class<?> due) {
        Class<?> got = null;
        try {
            call.make();
        } catch (RuntimeException e) {
            got = e.getClass();
        }
        note(got == due, what + " threw " + got + ", due is " + due);
    }

    private void note(boolean good, String otherwise) {
        if (good) {
            passed++;
        } else {
            failed++;
            System.out.println("  " + otherwise);
        }
    }

    void finish(String name) {
        System.out.println(name + ": " + passed + " checks passed, " + failed + " failed");
        if (failed != 0) {
            System.exit(1);
        }
    }

    /** Puts a text into the buffer, in place of the one that there is. */
    static void write(RugPunch x, String text) {
        x.clearText();
        for (int i = 0; i < text.length(); i++) {
            x.append(text.charAt(i));
        }
    }

    static void store(RugPunch x, int motif, String text) {
        write(x, text);
        x.store(motif);
    }

    /** All that the asking calls tell of the state, but for the text. */
    static String picture(RugPunch x) {
        StringBuilder all = new StringBuilder();
        for (int cell = 0; cell < 144; cell++) {
            all.append(x.planOf(cell)).append(' ').append(x.loopOf(cell)).append(' ');
            all.append(x.heightOf(cell)).append(' ').append(x.isSkipped(cell)).append(' ');
        }
        all.append(x.needle()).append(' ').append(x.heading()).append(' ').append(x.threaded()).append(' ');
        all.append(x.height()).append(' ').append(x.tension()).append(' ').append(x.knots()).append(' ');
        for (int colour = 0; colour < 5; colour++) {
            all.append(x.coneOf(colour)).append(' ').append(x.drawnByCone(colour)).append(' ');
            all.append(x.drawnByRug(colour)).append(' ').append(x.wasteOf(colour)).append(' ');
        }
        for (int motif = 0; motif < 4; motif++) {
            for (int place = 0; place < x.motifLength(motif); place++) {
                all.append((char) x.motifSign(motif, place));
            }
            all.append(';');
        }
        return all.toString();
    }
}
