/** Promises 17 to 23 and 35 to 43: the needle, stitches, jumps, turns and what they do to the tension. */
public final class NeedleTest {
    private static final Check CHECK = new Check();

    public static void main(String[] args) {
        goesOn();
        thread();
        cut();
        sew();
        sewStops();
        skips();
        jump();
        turns();
        ease();
        setHeight();
        place();
        CHECK.finish("NeedleTest");
    }

    private static void goesOn() {
        RugPunch x = new RugPunch();
        boolean[][] due = {
            {true, true, false, false}, {true, true, true, false}, {false, true, true, false},
            {true, true, false, true}, {true, true, true, true}, {false, true, true, true},
            {true, false, false, true}, {true, false, true, true}, {false, false, true, true},
        };
        int[] cells = {0, 5, 11, 60, 66, 71, 132, 137, 143};
        int[] next = {1, 12, -1, -12};
        for (int i = 0; i < cells.length; i++) {
            for (int heading = 0; heading < 4; heading++) {
                x.place(cells[i], heading);
                CHECK.holds("canGo() at " + cells[i] + " in " + heading, x.canGo() == due[i][heading]);
                CHECK.same("jump(1)", x.jump(1), due[i][heading] ? 1 : 0);
                CHECK.same("needle()", x.needle(), cells[i] + (due[i][heading] ? next[heading] : 0));
            }
        }
    }

    private static void thread() {
        RugPunch x = new RugPunch();
        CHECK.same("thread(3)", x.thread(3), 7980);
        CHECK.same("threaded()", x.threaded(), 3);
        CHECK.same("thread(3) again cuts first", x.thread(3), 7940);
        x.turnLeft();
        CHECK.same("thread(1)", x.thread(1), 7980);
        CHECK.same("the yarn that was threaded is cut", x.coneOf(3), 7920);
        CHECK.same("tension()", x.tension(), 0);
        CHECK.noCell("thread(5)", () -> x.thread(5));
        CHECK.noCell("thread(-1)", () -> x.thread(-1));
        CHECK.same("no knots by ends", x.knots(), 0);
    }

    private static void cut() {
        RugPunch x = new RugPunch();
        CHECK.noState("cut() without a thread", x::cut);
        x.thread(4);
        x.sew(3);
        CHECK.same("cut()", x.cut(), 4);
        CHECK.same("threaded()", x.threaded(), -1);
        CHECK.same("tension()", x.tension(), 0);
        CHECK.same("coneOf(4)", x.coneOf(4), 8000 - 20 - 36 - 20);
        CHECK.noState("cut() again", x::cut);
    }

    private static void sew() {
        RugPunch x = new RugPunch();
        CHECK.noRange("sew(0)", () -> x.sew(0));
        CHECK.noRange("sew(13)", () -> x.sew(13));
        CHECK.noState("sew(1) without a thread", () -> x.sew(1));
        x.thread(0);
        CHECK.same("sew(1)", x.sew(1), 1);
        CHECK.same("needle()", x.needle(), 1);
        CHECK.same("tension()", x.tension(), 1);
        CHECK.same("loopOf(0)", x.loopOf(0), 0);
        CHECK.same("heightOf(0)", x.heightOf(0), 4);
        CHECK.same("coneOf(0)", x.coneOf(0), 8000 - 20 - 12);
        x.setHeight(6);
        x.sew(1);
        CHECK.same("tension() with the height 6", x.tension(), 2);
        x.setHeight(7);
        x.sew(1);
        CHECK.same("tension() with the height 7", x.tension(), 4);
        CHECK.same("coneOf(0) with heights", x.coneOf(0), 8000 - 20 - 12 - 16 - 18);
    }

    private static void sewStops() {
        RugPunch x = new RugPunch();
        x.place(9, 0);
        x.thread(1);
        CHECK.same("sew(12) stops at the border", x.sew(12), 3);
        CHECK.same("needle()", x.needle(), 11);
        CHECK.noState("sew(1) at a cell with a loop", () -> x.sew(1));
        CHECK.noRange("sew(0) at a cell with a loop", () -> x.sew(0));
        x.cut();
        x.place(5, 0);
        x.thread(2);
        CHECK.same("sew(12) stops at a loop", x.sew(12), 4);
        CHECK.same("needle() at the loop", x.needle(), 9);
        CHECK.same("loopOf(9) stays", x.loopOf(9), 1);
        x.cut();
        x.place(36, 3);
        x.thread(3);
        CHECK.same("sew(2) upwards", x.sew(2), 2);
        CHECK.same("needle() upwards", x.needle(), 12);
        CHECK.same("sew(12) to the upper border", x.sew(12), 2);
    }

    private static void skips() {
        RugPunch x = new RugPunch();
        x.thread(0);
        x.sew(10);
        CHECK.same("tension()", x.tension(), 10);
        CHECK.holds("wouldSkip() with 10", x.wouldSkip());
        CHECK.same("sew(1) that skips", x.sew(1), 1);
        CHECK.holds("isSkipped(10)", x.isSkipped(10));
        CHECK.same("tension() then", x.tension(), 2);
        CHECK.holds("no skipping with 2", !x.wouldSkip());
        CHECK.same("coneOf(0)", x.coneOf(0), 8000 - 20 - 120 - 4);
        CHECK.same("needle() goes on", x.needle(), 11);
        x.cut();
        x.place(10, 0);
        x.thread(1);
        CHECK.same("sew(1) at a skipped cell", x.sew(1), 1);
        CHECK.same("loopOf(10)", x.loopOf(10), 1);
        CHECK.holds("no longer skipped", !x.isSkipped(10));
        CHECK.same("skipped()", x.skipped(), 0);
        for (int i = 0; i < 4; i++) {
            x.turnLeft();
        }
        CHECK.same("tension() with turns", x.tension(), 9);
        CHECK.holds("no skipping with 9", !x.wouldSkip());
        x.jump(1);
        x.turnLeft();
        CHECK.same("tension() above 10", x.tension(), 11);
        CHECK.same("sew(1) that skips again", x.sew(1), 1);
        CHECK.holds("isSkipped(11)", x.isSkipped(11));
        CHECK.same("the needle cannot go on", x.needle(), 11);
        x.turnLeft();
        x.turnLeft();
        x.turnLeft();
        x.turnLeft();
        CHECK.same("a skipped cell is skipped again", x.sew(12), 1);
        CHECK.same("and counts once", x.skipped(), 1);
    }

    private static void jump() {
        RugPunch x = new RugPunch();
        CHECK.noRange("jump(0)", () -> x.jump(0));
        CHECK.noRange("jump(13)", () -> x.jump(13));
        CHECK.noRange("jump(-1)", () -> x.jump(-1));
        CHECK.same("jump(4)", x.jump(4), 4);
        CHECK.same("tension() without a thread", x.tension(), 0);
        CHECK.same("needle()", x.needle(), 4);
        x.thread(2);
        CHECK.same("jump(3)", x.jump(3), 3);
        CHECK.same("tension()", x.tension(), 3);
        CHECK.same("coneOf(2)", x.coneOf(2), 8000 - 20 - 24);
        CHECK.same("jump(12)", x.jump(12), 4);
        CHECK.same("needle() at the border", x.needle(), 11);
        CHECK.same("jump(1) at the border", x.jump(1), 0);
        CHECK.same("tension() at the border", x.tension(), 7);
        CHECK.same("coneOf(2) at the border", x.coneOf(2), 8000 - 20 - 56);
    }

    private static void turns() {
        RugPunch x = new RugPunch();
        CHECK.same("turnLeft() from 0", x.turnLeft(), 3);
        CHECK.same("turnLeft() from 3", x.turnLeft(), 2);
        CHECK.same("turnRight() from 2", x.turnRight(), 3);
        CHECK.same("turnRight() from 3", x.turnRight(), 0);
        CHECK.same("turnRight() from 0", x.turnRight(), 1);
        CHECK.same("heading()", x.heading(), 1);
        CHECK.same("tension() without a thread", x.tension(), 0);
        x.thread(0);
        x.turnLeft();
        CHECK.same("tension() by turnLeft()", x.tension(), 2);
        x.turnRight();
        CHECK.same("tension() by turnRight()", x.tension(), 4);
        CHECK.same("heading() then", x.heading(), 1);
    }

    private static void ease() {
        RugPunch x = new RugPunch();
        CHECK.noState("ease() without a thread", x::ease);
        x.thread(0);
        x.jump(5);
        CHECK.same("ease()", x.ease(), 5);
        CHECK.same("tension()", x.tension(), 0);
        CHECK.same("wasteOf(0)", x.wasteOf(0), 10);
        CHECK.same("coneOf(0)", x.coneOf(0), 8000 - 20 - 40 - 10);
        CHECK.same("ease() again", x.ease(), 0);
        CHECK.same("wasteOf(0) again", x.wasteOf(0), 20);
        CHECK.same("threaded()", x.threaded(), 0);
    }

    private static void setHeight() {
        RugPunch x = new RugPunch();
        CHECK.same("setHeight(9)", x.setHeight(9), 4);
        CHECK.same("setHeight(1)", x.setHeight(1), 9);
        CHECK.same("height()", x.height(), 1);
        CHECK.noRange("setHeight(0)", () -> x.setHeight(0));
        CHECK.noRange("setHeight(10)", () -> x.setHeight(10));
        CHECK.same("height() after refused calls", x.height(), 1);
    }

    private static void place() {
        RugPunch x = new RugPunch();
        CHECK.same("place(143, 3)", x.place(143, 3), 0);
        CHECK.same("place(7, 2)", x.place(7, 2), 143);
        CHECK.same("needle()", x.needle(), 7);
        CHECK.same("heading()", x.heading(), 2);
        CHECK.noCell("place(144, 4)", () -> x.place(144, 4));
        CHECK.noCell("place(-1, 0)", () -> x.place(-1, 0));
        CHECK.noRange("place(0, 4)", () -> x.place(0, 4));
        CHECK.noRange("place(0, -1)", () -> x.place(0, -1));
        x.thread(0);
        CHECK.noCell("place(144, 0) threaded", () -> x.place(144, 0));
        CHECK.noRange("place(0, 4) threaded", () -> x.place(0, 4));
        CHECK.noState("place(0, 0) threaded", () -> x.place(0, 0));
        CHECK.same("needle() after refused calls", x.needle(), 7);
        x.cut();
        CHECK.same("place(0, 0) after cut()", x.place(0, 0), 7);
    }
}
