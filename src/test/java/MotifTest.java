/** Promises 31, 32 and 48 to 50: stored motifs, and how orders are done. */
public final class MotifTest {
    private static final Check CHECK = new Check();

    public static void main(String[] args) {
        store();
        motifSigns();
        run();
        runText();
        orders();
        groups();
        motifsInMotifs();
        fourHundred();
        CHECK.finish("MotifTest");
    }

    private static void store() {
        RugPunch x = new RugPunch();
        CHECK.noState("store(0) of an empty text", () -> x.store(0));
        CHECK.noCell("store(4) of an empty text", () -> x.store(4));
        CHECK.noCell("store(-1)", () -> x.store(-1));
        Check.write(x, "s0");
        CHECK.noState("store(3) of half an order", () -> x.store(3));
        Check.write(x, "lm0");
        CHECK.noState("store(0) with m0", () -> x.store(0));
        CHECK.same("store(1) with m0, which is not stored", x.store(1), 3);
        Check.write(x, "2(m2)");
        CHECK.noState("store(1) with m2", () -> x.store(1));
        CHECK.noState("store(2) with m2", () -> x.store(2));
        CHECK.same("store(3) with m2", x.store(3), 5);
        CHECK.same("the text stays", x.clearText(), 5);
        Check.write(x, "m0m3");
        CHECK.noState("store(3) with m3 behind m0", () -> x.store(3));
        Check.write(x, "r");
        CHECK.same("store(3) in place of another", x.store(3), 1);
        CHECK.same("motifLength(3)", x.motifLength(3), 1);
        CHECK.same("motifSign(3, 0)", x.motifSign(3, 0), 'r');
    }

    private static void motifSigns() {
        RugPunch x = new RugPunch();
        Check.store(x, 2, "s12j03");
        CHECK.same("motifLength(2)", x.motifLength(2), 6);
        String due = "s12j03";
        for (int place = 0; place < 6; place++) {
            CHECK.same("motifSign", x.motifSign(2, place), due.charAt(place));
        }
        CHECK.noCell("motifSign(2, 6)", () -> x.motifSign(2, 6));
        CHECK.noCell("motifSign(2, -1)", () -> x.motifSign(2, -1));
        CHECK.noCell("motifSign(1, 0)", () -> x.motifSign(1, 0));
        CHECK.noCell("motifSign(4, 0)", () -> x.motifSign(4, 0));
        CHECK.noCell("motifSign(-1, 0)", () -> x.motifSign(-1, 0));
        CHECK.noCell("motifLength(4)", () -> x.motifLength(4));
        CHECK.noCell("motifLength(-1)", () -> x.motifLength(-1));
        Check.store(x, 2, "l");
        CHECK.noCell("motifSign(2, 1) of a shorter one", () -> x.motifSign(2, 1));
        x.clearText();
        CHECK.same("a stored motif stays without the text", x.motifLength(2), 1);
    }

    private static void run() {
        RugPunch x = new RugPunch();
        CHECK.noCell("run(4)", () -> x.run(4));
        CHECK.noCell("run(-1)", () -> x.run(-1));
        CHECK.noState("run(0) without a motif", () -> x.run(0));
        Check.store(x, 0, "c1s03");
        x.clearText();
        CHECK.same("run(0)", x.run(0), 0);
        CHECK.same("needle()", x.needle(), 3);
        CHECK.same("loopOf(2)", x.loopOf(2), 1);
        CHECK.same("coneOf(1)", x.coneOf(1), 8000 - 20 - 36);
    }

    private static void runText() {
        RugPunch x = new RugPunch();
        CHECK.noState("runText() of an empty text", x::runText);
        Check.write(x, "c1s03x");
        CHECK.same("runText()", x.runText(), 0);
        CHECK.same("the text stays", x.errorPosition(), -1);
        CHECK.same("runText() again", x.runText(), 0);
        CHECK.same("needle()", x.needle(), 6);
        CHECK.same("threaded()", x.threaded(), -1);
        x.append('s');
        CHECK.noState("runText() of a text that is no motif", x::runText);
        CHECK.same("needle() stays", x.needle(), 6);
    }

    private static int broken(RugPunch x, String text) {
        Check.write(x, text);
        return x.runText();
    }

    private static void orders() {
        RugPunch x = new RugPunch();
        CHECK.same("s without a thread", broken(x, "s01"), 1);
        CHECK.same("x and e without a thread", broken(x, "xe"), 2);
        CHECK.same("l, r and h hold always", broken(x, "llrh9"), 0);
        CHECK.same("heading()", x.heading(), 3);
        CHECK.same("height()", x.height(), 9);
        CHECK.same("j at the border", broken(x, "j01rj11"), 1);
        CHECK.same("j that is less than told", broken(x, "rrj12"), 1);
        CHECK.same("needle()", x.needle(), 0);
        CHECK.same("m without a motif", broken(x, "m2"), 1);
        CHECK.same("c and s less than told", broken(x, "rrh4c0j10s03"), 1);
        CHECK.same("needle() at the border", x.needle(), 11);
        CHECK.same("s at a loop", broken(x, "s01"), 1);
        CHECK.same("e with a thread", broken(x, "e"), 0);
        CHECK.same("tension()", x.tension(), 0);
        CHECK.same("x with a thread", broken(x, "x"), 0);
        CHECK.same("threaded()", x.threaded(), -1);
        emptyCone();
    }

    private static void emptyCone() {
        RugPunch x = new RugPunch();
        x.thread(3);
        Check.write(x, "9(eeeeeeeeee)");
        for (int i = 0; i < 9; i++) {
            x.runText();
        }
        CHECK.same("coneOf(3)", x.coneOf(3), 0);
        CHECK.same("c of an empty cone", broken(x, "c3"), 1);
        CHECK.same("threaded() stays", x.threaded(), 3);
        CHECK.same("c of another cone", broken(x, "c4c3"), 1);
        CHECK.same("threaded() is the other", x.threaded(), 4);
    }

    private static void groups() {
        RugPunch x = new RugPunch();
        CHECK.same("a group", broken(x, "c13(s02j01)s01"), 0);
        CHECK.same("needle()", x.needle(), 10);
        CHECK.same("loopOf(7)", x.loopOf(7), 1);
        CHECK.same("loopOf(8)", x.loopOf(8), -1);
        CHECK.same("each time in a group is broken", broken(x, "x9(s01)2(x)"), 11);
        CHECK.same("two groups", broken(x, "2(rr)5(r)"), 0);
        CHECK.same("heading()", x.heading(), 1);
    }

    private static void motifsInMotifs() {
        RugPunch x = new RugPunch();
        Check.store(x, 0, "2(r)x");
        Check.store(x, 1, "3(m0l)m0");
        Check.store(x, 2, "m1m0");
        Check.store(x, 3, "m2l2(m2)");
        x.clearText();
        CHECK.same("run(0)", x.run(0), 1);
        CHECK.same("run(1)", x.run(1), 4);
        CHECK.same("heading()", x.heading(), (2 + 8 - 3) % 4);
        CHECK.same("run(2)", x.run(2), 5);
        CHECK.same("heading() then", x.heading(), (3 + 10 - 3) % 4);
        CHECK.same("run(3)", x.run(3), 15);
        CHECK.same("heading() at the end", x.heading(), (2 + 3 * 7 - 1) % 4);
        CHECK.same("the text with m3", broken(x, "m3"), 15);
        Check.store(x, 0, "l");
        CHECK.same("a motif in another one is the one of now", x.run(2), 0);
        RugPunch deep = new RugPunch();
        Check.store(deep, 0, "s01");
        Check.store(deep, 1, "m0");
        Check.store(deep, 2, "m1");
        Check.store(deep, 3, "m2");
        CHECK.same("four motifs in one another", broken(deep, "c0m32(m3)"), 0);
        CHECK.same("needle() by them", deep.needle(), 3);
    }

    /** Orders behind the four hundredth are passed over; groups and motifs count as one, each time. */
    private static void fourHundred() {
        RugPunch x = new RugPunch();
        Check.store(x, 0, "9(xxxxxxxxx)");
        CHECK.same("82 orders", x.run(0), 81);
        Check.store(x, 1, "m0m0m0m0");
        CHECK.same("332 orders", x.run(1), 324);
        Check.store(x, 1, "m0m0m0m0m0");
        CHECK.same("400 of 415 orders, ten of them groups and motifs", x.run(1), 390);
        Check.store(x, 1, "m0m0m0m09(xxxxxxx)r");
        CHECK.same("396 orders and the turn", x.run(1), 387);
        CHECK.same("the turn is done", x.heading(), 1);
        Check.store(x, 1, "m0m0m0m09(xxxxxxx)xxxr");
        CHECK.same("the turn is the 400th order", x.run(1), 390);
        CHECK.same("the 400th is done", x.heading(), 2);
        Check.store(x, 1, "m0m0m0m09(xxxxxxx)xxxxr");
        CHECK.same("the turn is the 401st order", x.run(1), 391);
        CHECK.same("the 401st is passed over", x.heading(), 2);
        Check.store(x, 1, "m0m0m0m09(xxxxxxx)xxxm0");
        CHECK.same("a motif as the 400th order", x.run(1), 390);
        Check.store(x, 1, "m0m0m0m09(xxxxxxx)xxx2(x)");
        CHECK.same("a group as the 400th order", x.run(1), 390);
        Check.write(x, "m0m0m0m09(xxxxxxx)xxxx");
        CHECK.same("runText() has the same limit", x.runText(), 391);
    }
}
