import java.util.ArrayList;
import java.util.List;

/** Long runs of calls: what must agree agrees, and a call throws only what its promise names. */
public final class RandomCallsTest {
    private static final Check CHECK = new Check();
    private static final String SIGNS = "sjlrchxem2345678901(()))";

    private long seed;
    private RugPunch x;
    private List<String> states;
    private final String[] saved = new String[2];

    public static void main(String[] args) {
        for (int run = 0; run < 60; run++) {
            RandomCallsTest test = new RandomCallsTest();
            test.seed = 1000003L * run;
            test.go(run % 4 == 3);
        }
        CHECK.finish("RandomCallsTest");
    }

    /** A number from 0 up to below the limit, the same in each run of this test. */
    private int number(int limit) {
        seed = seed * 6364136223846793005L + 1442695040888963407L;
        return (int) ((seed >>> 33) % limit);
    }

    private int around(int most) {
        return number(40) == 0 ? (number(2) == 0 ? -1 - number(3) : most + 1 + number(3)) : number(most + 1);
    }

    private void go(boolean wild) {
        x = new RugPunch();
        states = new ArrayList<>();
        for (int call = 0; call < 220; call++) {
            String before = Check.picture(x);
            int kind = number(24);
            try {
                act(kind, wild);
                if (kind < 19) {
                    states.add(before);
                    if (states.size() > 14) {
                        states.remove(0);
                    }
                }
            } catch (RuntimeException e) {
                Class<?> type = e.getClass();
                CHECK.holds("kind " + kind + " throws " + e, type == IndexOutOfBoundsException.class
                        || type == IllegalArgumentException.class || type == IllegalStateException.class);
                CHECK.holds("kind " + kind + " changes nothing when it throws", Check.picture(x).equals(before));
            }
            agree();
        }
    }

    private void act(int kind, boolean wild) {
        switch (kind) {
            case 0 -> x.setPlan(around(143), around(4));
            case 1 -> x.fillPlan(around(143), around(143), around(5) - 1);
            case 2, 3 -> x.thread(around(4));
            case 4, 5, 6 -> x.sew(wild ? number(20) - 3 : 1 + number(12));
            case 7 -> x.jump(wild ? number(20) - 3 : 1 + number(5));
            case 8 -> x.turnLeft();
            case 9 -> x.turnRight();
            case 10 -> x.ease();
            case 11 -> x.setHeight(around(9));
            case 12 -> x.place(around(143), around(3));
            case 13 -> x.wind(around(4), around(9999));
            case 14 -> x.mend(around(143));
            case 15 -> x.unpick(around(143));
            case 16 -> storeSomething();
            case 17 -> x.run(around(3));
            case 18 -> runSomething(wild);
            case 19 -> undo();
            case 20 -> save();
            case 21 -> restore();
            default -> ask();
        }
    }

    private void storeSomething() {
        writeOrders(2 + number(20));
        x.store(around(3));
    }

    private void runSomething(boolean wild) {
        if (wild) {
            x.clearText();
            for (int i = 0; i < number(30); i++) {
                x.append(SIGNS.charAt(number(SIGNS.length())));
            }
        } else {
            writeOrders(1 + number(25));
        }
        if (x.errorPosition() == RugPunch.NONE) {
            int loops = x.loopsBy() + loops();
            int needle = x.needleBy();
            int yarn = x.yarnBy(1) + x.drawnByCone(1);
            x.runText();
            CHECK.same("loopsBy()", loops, loops());
            CHECK.same("needleBy()", needle, x.needle());
            CHECK.same("yarnBy(1)", yarn, x.drawnByCone(1));
        } else {
            x.runText();
        }
    }

    private void writeOrders(int orders) {
        String[] all = {"s03", "s12", "j01", "j04", "l", "r", "c0", "c1", "c2", "h3", "h8", "x", "e", "m0", "m1", "m2"};
        StringBuilder text = new StringBuilder();
        boolean inside = false;
        for (int i = 0; i < orders; i++) {
            if (!inside && number(4) == 0) {
                text.append(2 + number(8)).append('(');
                inside = true;
            }
            text.append(all[number(all.length)]);
            if (inside && number(3) == 0) {
                text.append(')');
                inside = false;
            }
        }
        Check.write(x, inside ? text.append(')').toString() : text.toString());
    }

    private int loops() {
        int loops = 0;
        for (int cell = 0; cell < 144; cell++) {
            loops += x.loopOf(cell) != -1 ? 1 : 0;
        }
        return loops;
    }

    private void undo() {
        if (states.isEmpty()) {
            CHECK.noState("undo() of nothing", () -> x.undo());
            return;
        }
        String due = states.remove(states.size() - 1);
        CHECK.same("undo()", x.undo(), states.size());
        CHECK.holds("undo() takes back", Check.picture(x).equals(due));
    }

    private void save() {
        int slot = around(1);
        CHECK.same("save()", x.save(slot), loops());
        saved[slot] = Check.picture(x);
    }

    private void restore() {
        int slot = around(1);
        int answer = x.restore(slot);
        CHECK.same("restore()", answer, loops());
        CHECK.holds("restore() brings back", Check.picture(x).equals(saved[slot]));
        states.clear();
    }

    private void ask() {
        String before = Check.picture(x);
        x.simulate(seed, 1 + number(60));
        int could = x.couldSew();
        CHECK.holds("asking changes nothing", Check.picture(x).equals(before));
        if (could > 0) {
            CHECK.same("couldSew()", could, x.sew(12));
            x.undo();
            if (states.size() == 14) {
                states.remove(0);
            }
        } else {
            CHECK.holds("whyNoStitch()", x.whyNoStitch() != 0);
            CHECK.noState("sew(1)", () -> x.sew(1));
        }
    }

    private void agree() {
        int missing = 0;
        int wrong = 0;
        int right = 0;
        int sum = 0;
        for (int cell = 0; cell < 144; cell++) {
            int plan = x.planOf(cell);
            int loop = x.loopOf(cell);
            missing += plan != -1 && loop == -1 ? 1 : 0;
            right += loop != -1 && plan == loop ? 1 : 0;
            wrong += loop != -1 && plan != loop ? 1 : 0;
            sum += x.heightOf(cell);
            CHECK.holds("a height goes with a loop", (loop != -1) == (x.heightOf(cell) != 0));
        }
        CHECK.same("missing()", x.missing(), missing);
        CHECK.same("right()", x.right(), right);
        CHECK.same("wrong()", x.wrong(), wrong);
        int loops = right + wrong;
        CHECK.same("density()", (double) x.density(), (double) ((float) loops / 144));
        CHECK.same("meanHeight()", x.meanHeight(), loops == 0 ? 0.0 : (double) sum / loops);
        for (int colour = 0; colour < 5; colour++) {
            CHECK.same("drawn", x.drawnByCone(colour), x.drawnByRug(colour));
            CHECK.same("areas", x.areasBySpreading(colour), x.areasByJoining(colour));
            CHECK.same("nearest", x.nearestByRings(colour), x.nearestByCells(colour));
            CHECK.holds("a cone", x.coneOf(colour) >= 0 && x.coneOf(colour) <= 20000);
        }
    }
}
