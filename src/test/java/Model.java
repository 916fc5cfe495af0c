import java.util.ArrayList;
import java.util.List;
import java.util.regex.Matcher;
import java.util.regex.Pattern;

/** The document told a second time, as slowly as it likes: what RugPunch is compared with. */
final class Model {
    private static final String ORDER =
            "[sj](0[1-9]|1[0-2])|[lrxe]|c[0-4]|h[1-9]|m[0-3]";
    private static final Pattern MOTIF = Pattern.compile("(" + ORDER + "|[2-9]\\((" + ORDER + ")+\\))+");
    private static final Pattern PART = Pattern.compile("([2-9])\\(([^)]*)\\)|" + ORDER);
    private static final int[] BY_COLUMN = {1, 0, -1, 0};
    private static final int[] BY_ROW = {0, 1, 0, -1};

    /** All that undo, save and restore bring back. */
    private static final class State {
        private final Integer[] plan = new Integer[144];
        private final int[][] loops = new int[144][];
        private final boolean[] skipped = new boolean[144];
        private final int[] cones = {8000, 8000, 8000, 8000, 8000};
        private final int[] puts = {8000, 8000, 8000, 8000, 8000};
        private final int[] waste = new int[5];
        private final String[] motifs = {"", "", "", ""};
        private int column;
        private int row;
        private int heading;
        private int threaded = -1;
        private int height = 4;
        private int tension;
        private int knots;

        State copy() {
            State copy = new State();
            for (int cell = 0; cell < 144; cell++) {
                copy.plan[cell] = plan[cell];
                copy.loops[cell] = loops[cell] == null ? null : loops[cell].clone();
                copy.skipped[cell] = skipped[cell];
            }
            for (int colour = 0; colour < 5; colour++) {
                copy.cones[colour] = cones[colour];
                copy.puts[colour] = puts[colour];
                copy.waste[colour] = waste[colour];
            }
            for (int motif = 0; motif < 4; motif++) {
                copy.motifs[motif] = motifs[motif];
            }
            copy.column = column;
            copy.row = row;
            copy.heading = heading;
            copy.threaded = threaded;
            copy.height = height;
            copy.tension = tension;
            copy.knots = knots;
            return copy;
        }
    }

    private State now = new State();
    private final List<State> remembered = new ArrayList<>();
    private final State[] slots = new State[2];
    private String text = "";
    private int orders;
    private int broken;

    /** What a call answers, a boolean as 1 or 0; a refused call throws what the document names. */
    double answer(String name, long... with) {
        int a = with.length > 0 ? (int) with[0] : 0;
        int b = with.length > 1 ? (int) with[1] : 0;
        int c = with.length > 2 ? (int) with[2] : 0;
        switch (name) {
            case "append": return append(a);
            case "clearText": { int length = text.length(); text = ""; return length; }
            case "errorPosition": return errorPosition();
            case "planOf": cell(a); return planOf(a);
            case "loopOf": cell(a); return loopOf(a);
            case "heightOf": cell(a); return now.loops[a] == null ? 0 : now.loops[a][1];
            case "isSkipped": cell(a); return now.skipped[a] ? 1 : 0;
            case "right": return count('r');
            case "missing": return count('m');
            case "wrong": return count('w');
            case "skipped": return count('s');
            case "areasBySpreading":
            case "areasByJoining": colour(a); return areas(a);
            case "density": return (float) count('l') / 144;
            case "meanHeight": return meanHeight();
            case "needle": return needle();
            case "heading": return now.heading;
            case "threaded": return now.threaded;
            case "height": return now.height;
            case "tension": return now.tension;
            case "canGo": return canGo() ? 1 : 0;
            case "wouldSkip": return now.tension >= 10 ? 1 : 0;
            case "coneOf": colour(a); return now.cones[a];
            case "drawnByCone":
            case "drawnByRug": colour(a); return now.puts[a] - now.cones[a];
            case "wasteOf": colour(a); return now.waste[a];
            case "neededFor": colour(a); return neededFor(a);
            case "untilKnot": colour(a); return 1000 - (now.puts[a] - now.cones[a]) % 1000;
            case "knots": return now.knots;
            case "motifLength": motif(a); return now.motifs[a].length();
            case "motifSign": motif(a); bounds(b, now.motifs[a].length()); return now.motifs[a].charAt(b);
            case "save": bounds(a, 2); slots[a] = now.copy(); return count('l');
            case "restore": return restore(a);
            case "undo": return undo();
            case "whyNoStitch": return whyNoStitch();
            case "whyNoMending": cell(a); return whyNoMending(a);
            case "couldSew": { State before = now.copy(); int done = sewUpTo(12); now = before; return done; }
            case "nearestByRings":
            case "nearestByCells": colour(a); return nearest(a);
            case "loopsBy": motifText(); return forecast('l', 0);
            case "needleBy": motifText(); return forecast('n', 0);
            case "yarnBy": colour(a); motifText(); return forecast('y', a);
            case "simulate": return simulate(with[0], b);
            default: return act(name, a, b, c);
        }
    }

    /** An action is done first; a refused one has thrown before it changed anything. */
    private int act(String name, int a, int b, int c) {
        State before = now.copy();
        int answer = action(name, a, b, c);
        remembered.add(before);
        if (remembered.size() > 14) {
            remembered.remove(0);
        }
        return answer;
    }

    private int action(String name, int a, int b, int c) {
        switch (name) {
            case "setPlan": cell(a); range(b, -1, 4); { int old = planOf(a); plan(a, b); return old; }
            case "fillPlan": return fillPlan(a, b, c);
            case "thread": colour(a); may(now.cones[a] >= 20); threadWith(a); return now.cones[a];
            case "cut": { int old = now.threaded; may(old != -1); cutYarn(); return old; }
            case "sew": range(a, 1, 12); may(whyNoStitch() == 0); return sewUpTo(a);
            case "jump": range(a, 1, 12); return jumpOver(a);
            case "turnLeft": turn(3); return now.heading;
            case "turnRight": turn(1); return now.heading;
            case "ease": { int old = now.tension; may(now.threaded != -1); easeYarn(); return old; }
            case "setHeight": { range(a, 1, 9); int old = now.height; now.height = a; return old; }
            case "place": return place(a, b);
            case "wind": return wind(a, b);
            case "mend": cell(a); may(whyNoMending(a) == 0); return mend(a);
            case "unpick": cell(a); may(now.loops[a] != null); return unpick(a);
            case "shear": range(a, 1, 9); return shear(a);
            case "store": return store(a);
            case "run": motif(a); may(!now.motifs[a].isEmpty()); return play(now.motifs[a]);
            case "runText": motifText(); return play(text);
            default: throw new UnsupportedOperationException(name);
        }
    }

    private static void bounds(int index, int count) {
        if (index < 0 || index >= count) {
            throw new IndexOutOfBoundsException();
        }
    }

    private static void cell(int cell) {
        bounds(cell, 144);
    }

    private static void colour(int colour) {
        bounds(colour, 5);
    }

    private static void motif(int motif) {
        bounds(motif, 4);
    }

    private static void range(int value, int least, int most) {
        if (value < least || value > most) {
            throw new IllegalArgumentException();
        }
    }

    private static void may(boolean truth) {
        if (!truth) {
            throw new IllegalStateException();
        }
    }

    private void motifText() {
        may(MOTIF.matcher(text).matches());
    }

    private int append(int c) {
        range(c, 0, 255);
        may(text.length() < 120);
        text += (char) c;
        return text.length();
    }

    /** The longest beginning that something may still follow, or that is a motif. */
    private int errorPosition() {
        if (MOTIF.matcher(text).matches()) {
            return -1;
        }
        for (int length = 1; length <= text.length(); length++) {
            Matcher matcher = MOTIF.matcher(text.substring(0, length));
            if (!matcher.matches() && !matcher.hitEnd()) {
                return length - 1;
            }
        }
        return text.length();
    }

    private int planOf(int cell) {
        return now.plan[cell] == null ? -1 : now.plan[cell];
    }

    private void plan(int cell, int colour) {
        now.plan[cell] = colour == -1 ? null : Integer.valueOf(colour);
    }

    private int loopOf(int cell) {
        return now.loops[cell] == null ? -1 : now.loops[cell][0];
    }

    private int needle() {
        return 12 * now.row + now.column;
    }

    private int count(char what) {
        int count = 0;
        for (int cell = 0; cell < 144; cell++) {
            boolean planned = now.plan[cell] != null;
            boolean loop = now.loops[cell] != null;
            boolean same = planned && loop && now.plan[cell] == now.loops[cell][0];
            boolean counts = switch (what) {
                case 'r' -> same;
                case 'm' -> planned && !loop;
                case 'w' -> loop && !same;
                case 's' -> now.skipped[cell];
                default -> loop;
            };
            count += counts ? 1 : 0;
        }
        return count;
    }

    private double meanHeight() {
        double sum = 0;
        for (int[] loop : now.loops) {
            sum += loop == null ? 0 : loop[1];
        }
        return count('l') == 0 ? 0.0 : sum / count('l');
    }

    private int areas(int colour) {
        boolean[] seen = new boolean[144];
        int areas = 0;
        for (int cell = 0; cell < 144; cell++) {
            areas += flood(cell % 12, cell / 12, colour, seen) ? 1 : 0;
        }
        return areas;
    }

    private boolean flood(int column, int row, int colour, boolean[] seen) {
        if (column < 0 || column > 11 || row < 0 || row > 11) {
            return false;
        }
        int cell = 12 * row + column;
        if (seen[cell] || planOf(cell) != colour) {
            return false;
        }
        seen[cell] = true;
        for (int heading = 0; heading < 4; heading++) {
            flood(column + BY_COLUMN[heading], row + BY_ROW[heading], colour, seen);
        }
        return true;
    }

    private int neededFor(int colour) {
        int needed = 0;
        for (int cell = 0; cell < 144; cell++) {
            needed += planOf(cell) == colour && now.loops[cell] == null ? 2 * now.height + 4 : 0;
        }
        return needed;
    }

    private int nearest(int colour) {
        int best = -1;
        int least = 1000;
        for (int cell = 143; cell >= 0; cell--) {
            int away = Math.abs(cell % 12 - now.column) + Math.abs(cell / 12 - now.row);
            if (planOf(cell) == colour && now.loops[cell] == null && away <= least) {
                best = cell;
                least = away;
            }
        }
        return best;
    }

    private boolean canGo() {
        int column = now.column + BY_COLUMN[now.heading];
        int row = now.row + BY_ROW[now.heading];
        return column >= 0 && column <= 11 && row >= 0 && row <= 11;
    }

    private boolean goOn() {
        if (!canGo()) {
            return false;
        }
        now.column += BY_COLUMN[now.heading];
        now.row += BY_ROW[now.heading];
        return true;
    }

    private int take(int colour, int millimetres) {
        int taken = Math.min(now.cones[colour], millimetres);
        now.cones[colour] -= taken;
        return taken;
    }

    private void takeByNeedle(int millimetres) {
        int colour = now.threaded;
        int before = (now.puts[colour] - now.cones[colour]) / 1000;
        take(colour, millimetres);
        if ((now.puts[colour] - now.cones[colour]) / 1000 > before) {
            now.tension += 4;
            now.knots++;
        }
    }

    private int whyNoStitch() {
        if (now.threaded == -1) {
            return 1;
        }
        if (now.loops[needle()] != null) {
            return 2;
        }
        return now.cones[now.threaded] < 2 * now.height + 4 ? 3 : 0;
    }

    private int sewUpTo(int stitches) {
        for (int done = 0; done < stitches; done++) {
            if (whyNoStitch() != 0) {
                return done;
            }
            if (now.tension >= 10) {
                now.skipped[needle()] = true;
                now.tension = 2;
                takeByNeedle(4);
            } else {
                now.skipped[needle()] = false;
                now.loops[needle()] = new int[] {now.threaded, now.height};
                now.tension += now.height > 6 ? 2 : 1;
                takeByNeedle(2 * now.height + 4);
            }
            if (!goOn()) {
                return done + 1;
            }
        }
        return stitches;
    }

    private int jumpOver(int cells) {
        for (int done = 0; done < cells; done++) {
            if (!goOn()) {
                return done;
            }
            if (now.threaded != -1) {
                now.tension += 1;
                takeByNeedle(8);
            }
        }
        return cells;
    }

    private void turn(int quarters) {
        now.heading = (now.heading + quarters) % 4;
        now.tension += now.threaded != -1 ? 2 : 0;
    }

    private void threadWith(int colour) {
        if (now.threaded != -1) {
            cutYarn();
        }
        take(colour, 20);
        now.threaded = colour;
        now.tension = 0;
    }

    private void cutYarn() {
        take(now.threaded, 20);
        now.threaded = -1;
        now.tension = 0;
    }

    private void easeYarn() {
        now.waste[now.threaded] += take(now.threaded, 10);
        now.tension = 0;
    }

    private int fillPlan(int a, int b, int c) {
        cell(a);
        cell(b);
        range(c, -1, 4);
        int different = 0;
        for (int cell = 0; cell < 144; cell++) {
            boolean inColumns = (cell % 12 - a % 12) * (cell % 12 - b % 12) <= 0;
            boolean inRows = (cell / 12 - a / 12) * (cell / 12 - b / 12) <= 0;
            if (inColumns && inRows && planOf(cell) != c) {
                plan(cell, c);
                different++;
            }
        }
        return different;
    }

    private int place(int cell, int heading) {
        cell(cell);
        range(heading, 0, 3);
        may(now.threaded == -1);
        int old = needle();
        now.column = cell % 12;
        now.row = cell / 12;
        now.heading = heading;
        return old;
    }

    private int wind(int colour, int millimetres) {
        colour(colour);
        range(millimetres, 1, 9999);
        may(now.cones[colour] + millimetres <= 20000);
        now.cones[colour] += millimetres;
        now.puts[colour] += millimetres;
        return now.cones[colour];
    }

    private int whyNoMending(int cell) {
        if (now.plan[cell] == null || now.loops[cell] != null) {
            return 1;
        }
        return now.cones[now.plan[cell]] < 2 * now.height + 4 ? 2 : 0;
    }

    private int mend(int cell) {
        take(planOf(cell), 2 * now.height + 4);
        now.skipped[cell] = false;
        now.loops[cell] = new int[] {planOf(cell), now.height};
        return planOf(cell);
    }

    private int unpick(int cell) {
        int[] loop = now.loops[cell];
        now.waste[loop[0]] += 2 * loop[1] + 4;
        now.loops[cell] = null;
        return loop[0];
    }

    private int shear(int height) {
        int lower = 0;
        for (int[] loop : now.loops) {
            if (loop != null && loop[1] > height) {
                now.waste[loop[0]] += 2 * (loop[1] - height);
                loop[1] = height;
                lower++;
            }
        }
        return lower;
    }

    private int store(int motif) {
        motif(motif);
        motifText();
        for (int other = motif; other < 4; other++) {
            may(!text.contains("m" + other));
        }
        now.motifs[motif] = text;
        return text.length();
    }

    private int play(String orders) {
        this.orders = 0;
        broken = 0;
        doAll(orders);
        return broken;
    }

    private void doAll(String motif) {
        Matcher parts = PART.matcher(motif);
        while (parts.find() && orders < 400) {
            orders++;
            if (parts.group(1) != null) {
                for (int time = 0; time < parts.group(1).charAt(0) - '0'; time++) {
                    doAll(parts.group(2));
                }
            } else if (!doOne(parts.group())) {
                broken++;
            }
        }
    }

    private boolean doOne(String order) {
        int number = order.length() > 1 ? Integer.parseInt(order.substring(1)) : 0;
        switch (order.charAt(0)) {
            case 's': return sewUpTo(number) == number;
            case 'j': return jumpOver(number) == number;
            case 'l': turn(3); return true;
            case 'r': turn(1); return true;
            case 'h': now.height = number; return true;
            case 'm': doAll(now.motifs[number]); return !now.motifs[number].isEmpty();
            case 'c': {
                boolean can = now.cones[number] >= 20;
                if (can) {
                    threadWith(number);
                }
                return can;
            }
            default: {
                boolean can = now.threaded != -1;
                if (can && order.equals("x")) {
                    cutYarn();
                } else if (can) {
                    easeYarn();
                }
                return can;
            }
        }
    }

    private int undo() {
        may(!remembered.isEmpty());
        now = remembered.remove(remembered.size() - 1);
        return remembered.size();
    }

    private int restore(int slot) {
        bounds(slot, 2);
        may(slots[slot] != null);
        now = slots[slot].copy();
        remembered.clear();
        return count('l');
    }

    private int forecast(char what, int colour) {
        State before = now;
        int loops = count('l');
        now = before.copy();
        play(text);
        int answer = what == 'l' ? count('l') - loops : what == 'n' ? needle() : before.cones[colour] - now.cones[colour];
        now = before;
        return answer;
    }

    private int simulate(long seed, int m) {
        range(m, 1, 60);
        State before = now;
        now = before.copy();
        long x = seed;
        for (int turn = 0; turn < m; turn++) {
            x = x * 6364136223846793005L + 1442695040888963407L;
            try {
                simulateTurn((int) (x >>> 33));
            } catch (IllegalStateException e) {
                continue;
            }
        }
        int answer = 1000 * count('l') + 10 * (count('s') % 100) + now.heading;
        now = before;
        return answer;
    }

    private void simulateTurn(int r) {
        int q = r / 32;
        int kind = r % 32;
        if (kind <= 13) {
            action("sew", 1 + q % 12, 0, 0);
        } else if (kind <= 16) {
            action("jump", 1 + q % 3, 0, 0);
        } else if (kind <= 19) {
            action("turnLeft", 0, 0, 0);
        } else if (kind <= 22) {
            action("turnRight", 0, 0, 0);
        } else if (kind <= 25) {
            action("thread", q % 5, 0, 0);
        } else if (kind == 26) {
            if (q % 4 == 0) {
                action("cut", 0, 0, 0);
            }
        } else if (kind == 27) {
            action("ease", 0, 0, 0);
        } else if (kind == 28) {
            action("setHeight", 1 + q % 9, 0, 0);
        } else if (kind == 29) {
            action("unpick", q % 144, 0, 0);
        } else if (kind == 30) {
            if (q / 9 % 8 == 0) {
                action("shear", 1 + q % 9, 0, 0);
            }
        } else {
            action("run", q % 4, 0, 0);
        }
    }
}
