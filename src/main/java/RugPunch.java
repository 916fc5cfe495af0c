/** A punch needle machine for rugs; the project's document tells what each call answers. */
public final class RugPunch {
    public static final int NONE = -1;

    private static final int SIDE = 12;
    private static final int CELLS = SIDE * SIDE;
    private static final int COLOURS = 5;
    private static final int HEADINGS = 4;
    private static final int MOTIFS = 4;
    private static final int SLOTS = 2;
    private static final int TEXT_LIMIT = 120;
    private static final int MOST_HEIGHT = 9;
    private static final int MOST_STITCHES = 12;
    private static final int MOST_WOUND = 9999;
    private static final int CONE_LIMIT = 20000;
    private static final int MOST_TURNS = 60;

    private final Rug rug = new Rug();
    private final Rug trial = new Rug();
    private final Rug[] slots = new Rug[SLOTS];
    private final History history = new History();
    private final Script text = new Script();
    private final Player player = new Player();
    private final Areas areas = new Areas();

    public RugPunch() {
    }

    // ---- text

    public int append(int c) throws IllegalArgumentException, IllegalStateException {
        needRange(c, 0, 255);
        if (text.length >= TEXT_LIMIT) {
            throw new IllegalStateException("the text is full");
        }
        text.add((char) c);
        return text.length;
    }

    public int clearText() {
        int previous = text.length;
        text.length = 0;
        return previous;
    }

    public int errorPosition() {
        return text.firstError();
    }

    // ---- canvas, plan

    public int planOf(int cell) throws IndexOutOfBoundsException {
        needCell(cell);
        return rug.canvas.planAt(cell);
    }

    public int loopOf(int cell) throws IndexOutOfBoundsException {
        needCell(cell);
        return rug.canvas.loopAt(cell);
    }

    public int heightOf(int cell) throws IndexOutOfBoundsException {
        needCell(cell);
        return rug.canvas.heightAt(cell);
    }

    public boolean isSkipped(int cell) throws IndexOutOfBoundsException {
        needCell(cell);
        return rug.canvas.skippedAt(cell);
    }

    public int right() {
        return rug.canvas.countRight();
    }

    public int missing() {
        return rug.canvas.countMissing();
    }

    public int wrong() {
        return rug.canvas.countLoops() - rug.canvas.countRight();
    }

    public int skipped() {
        return rug.canvas.countSkipped();
    }

    public int areasBySpreading(int colour) throws IndexOutOfBoundsException {
        needColour(colour);
        return areas.countSpreading(rug.canvas, colour);
    }

    public int areasByJoining(int colour) throws IndexOutOfBoundsException {
        needColour(colour);
        return areas.countJoining(rug.canvas, colour);
    }

    public float density() {
        return (float) rug.canvas.countLoops() / 144.0f;
    }

    public double meanHeight() {
        int loops = rug.canvas.countLoops();
        return loops == 0 ? 0.0 : (double) rug.canvas.sumHeights() / (double) loops;
    }

    // ---- needle

    public int needle() {
        return rug.needle;
    }

    public int heading() {
        return rug.heading;
    }

    public int threaded() {
        return rug.threaded;
    }

    public int height() {
        return rug.height;
    }

    public int tension() {
        return rug.tension;
    }

    public boolean canGo() {
        return beside(rug.needle, rug.heading) != NONE;
    }

    public boolean wouldSkip() {
        return rug.isTight();
    }

    // ---- yarn

    public int coneOf(int colour) throws IndexOutOfBoundsException {
        needColour(colour);
        return rug.yarn.onCone(colour);
    }

    public int drawnByCone(int colour) throws IndexOutOfBoundsException {
        needColour(colour);
        return rug.yarn.drawn(colour);
    }

    public int drawnByRug(int colour) throws IndexOutOfBoundsException {
        needColour(colour);
        return rug.canvas.yarnInLoops(colour) + rug.yarn.outsideLoops(colour);
    }

    public int wasteOf(int colour) throws IndexOutOfBoundsException {
        needColour(colour);
        return rug.yarn.wasted(colour);
    }

    public int neededFor(int colour) throws IndexOutOfBoundsException {
        needColour(colour);
        return rug.canvas.countMissingOf(colour) * yarnForLoop(rug.height);
    }

    public int untilKnot(int colour) throws IndexOutOfBoundsException {
        needColour(colour);
        return Yarn.THOUSAND - rug.yarn.drawn(colour) % Yarn.THOUSAND;
    }

    public int knots() {
        return rug.knots;
    }

    // ---- motifs

    public int motifLength(int motif) throws IndexOutOfBoundsException {
        needMotif(motif);
        Script stored = rug.motifAt(motif);
        return stored == null ? 0 : stored.length;
    }

    public int motifSign(int motif, int place) throws IndexOutOfBoundsException {
        needMotif(motif);
        Script stored = rug.motifAt(motif);
        if (stored == null || place < 0 || place >= stored.length) {
            throw new IndexOutOfBoundsException("the motif has no such place");
        }
        return stored.signAt(place);
    }

    // ---- actions

    public int setPlan(int cell, int colour) throws IndexOutOfBoundsException, IllegalArgumentException {
        needCell(cell);
        needRange(colour, NONE, COLOURS - 1);
        history.remember(rug);
        int previous = rug.canvas.planAt(cell);
        rug.canvas.setPlanAt(cell, colour);
        return previous;
    }

    public int fillPlan(int cell, int other, int colour) throws IndexOutOfBoundsException, IllegalArgumentException {
        needCell(cell);
        needCell(other);
        needRange(colour, NONE, COLOURS - 1);
        history.remember(rug);
        return rug.canvas.fillBetween(cell, other, colour);
    }

    public int thread(int colour) throws IndexOutOfBoundsException, IllegalStateException {
        needColour(colour);
        if (!rug.yarn.hasEnd(colour)) {
            throw new IllegalStateException("the cone has too little for an end");
        }
        history.remember(rug);
        rug.tryThread(colour);
        return rug.yarn.onCone(colour);
    }

    public int cut() throws IllegalStateException {
        needThreaded();
        history.remember(rug);
        int previous = rug.threaded;
        rug.tryCut();
        return previous;
    }

    public int sew(int stitches) throws IllegalArgumentException, IllegalStateException {
        needRange(stitches, 1, MOST_STITCHES);
        if (rug.reasonAgainstStitch() != 0) {
            throw new IllegalStateException("no stitch can be done");
        }
        history.remember(rug);
        return rug.sewUpTo(stitches);
    }

    public int jump(int cells) throws IllegalArgumentException {
        needRange(cells, 1, MOST_STITCHES);
        history.remember(rug);
        return rug.jumpOver(cells);
    }

    public int turnLeft() {
        history.remember(rug);
        rug.turnBy(-1);
        return rug.heading;
    }

    public int turnRight() {
        history.remember(rug);
        rug.turnBy(1);
        return rug.heading;
    }

    public int ease() throws IllegalStateException {
        needThreaded();
        history.remember(rug);
        int previous = rug.tension;
        rug.tryEase();
        return previous;
    }

    public int setHeight(int height) throws IllegalArgumentException {
        needRange(height, 1, MOST_HEIGHT);
        history.remember(rug);
        int previous = rug.height;
        rug.height = height;
        return previous;
    }

    public int place(int cell, int heading)
            throws IndexOutOfBoundsException, IllegalArgumentException, IllegalStateException {
        needCell(cell);
        needRange(heading, 0, HEADINGS - 1);
        if (rug.threaded != NONE) {
            throw new IllegalStateException("the needle is threaded");
        }
        history.remember(rug);
        int previous = rug.needle;
        rug.needle = cell;
        rug.heading = heading;
        return previous;
    }

    public int wind(int colour, int millimetres)
            throws IndexOutOfBoundsException, IllegalArgumentException, IllegalStateException {
        needColour(colour);
        needRange(millimetres, 1, MOST_WOUND);
        if (rug.yarn.onCone(colour) + millimetres > CONE_LIMIT) {
            throw new IllegalStateException("the cone cannot hold so much");
        }
        history.remember(rug);
        rug.yarn.putOn(colour, millimetres);
        return rug.yarn.onCone(colour);
    }

    public int mend(int cell) throws IndexOutOfBoundsException, IllegalStateException {
        needCell(cell);
        if (rug.reasonAgainstMending(cell) != 0) {
            throw new IllegalStateException("the cell cannot be mended");
        }
        history.remember(rug);
        rug.mendAt(cell);
        return rug.canvas.loopAt(cell);
    }

    public int unpick(int cell) throws IndexOutOfBoundsException, IllegalStateException {
        needCell(cell);
        int colour = rug.canvas.loopAt(cell);
        if (colour == NONE) {
            throw new IllegalStateException("the cell has no loop");
        }
        history.remember(rug);
        rug.tryUnpick(cell);
        return colour;
    }

    public int shear(int height) throws IllegalArgumentException {
        needRange(height, 1, MOST_HEIGHT);
        history.remember(rug);
        return rug.shearTo(height);
    }

    public int store(int motif) throws IndexOutOfBoundsException, IllegalStateException {
        needMotif(motif);
        needMotifText();
        if (text.hasMotifFrom(motif)) {
            throw new IllegalStateException("a motif in the text has not a lower number");
        }
        history.remember(rug);
        rug.keepMotif(motif, text);
        return text.length;
    }

    public int run(int motif) throws IndexOutOfBoundsException, IllegalStateException {
        needMotif(motif);
        Script stored = rug.motifAt(motif);
        if (stored == null) {
            throw new IllegalStateException("no motif is stored with this number");
        }
        history.remember(rug);
        return player.play(rug, stored);
    }

    public int runText() throws IllegalStateException {
        needMotifText();
        history.remember(rug);
        return player.play(rug, text);
    }

    public int undo() throws IllegalStateException {
        if (history.count == 0) {
            throw new IllegalStateException("no state is remembered");
        }
        history.takeBack(rug);
        return history.count;
    }

    // ---- reasons, what would be

    public int whyNoStitch() {
        return rug.reasonAgainstStitch();
    }

    public int whyNoMending(int cell) throws IndexOutOfBoundsException {
        needCell(cell);
        return rug.reasonAgainstMending(cell);
    }

    public int couldSew() {
        trial.copyFrom(rug);
        return trial.sewUpTo(SIDE);
    }

    public int nearestByRings(int colour) throws IndexOutOfBoundsException {
        needColour(colour);
        return rug.canvas.nearestInRings(rug.needle, colour);
    }

    public int nearestByCells(int colour) throws IndexOutOfBoundsException {
        needColour(colour);
        return rug.canvas.nearestInCells(rug.needle, colour);
    }

    public int loopsBy() throws IllegalStateException {
        needMotifText();
        tryText();
        return trial.canvas.countLoops() - rug.canvas.countLoops();
    }

    public int needleBy() throws IllegalStateException {
        needMotifText();
        tryText();
        return trial.needle;
    }

    public int yarnBy(int colour) throws IndexOutOfBoundsException, IllegalStateException {
        needColour(colour);
        needMotifText();
        tryText();
        return trial.yarn.drawn(colour) - rug.yarn.drawn(colour);
    }

    // ---- a simulation

    public int simulate(long seed, int m) throws IllegalArgumentException {
        needRange(m, 1, MOST_TURNS);
        trial.copyFrom(rug);
        long x = seed;
        for (int turn = 0; turn < m; turn++) {
            x = x * 6364136223846793005L + 1442695040888963407L;
            simulateTurn((int) (x >>> 33));
        }
        return 1000 * trial.canvas.countLoops() + 10 * (trial.canvas.countSkipped() % 100) + trial.heading;
    }

    // ---- save slots

    public int save(int slot) throws IndexOutOfBoundsException {
        needSlot(slot);
        if (slots[slot] == null) {
            slots[slot] = new Rug();
        }
        slots[slot].copyFrom(rug);
        return rug.canvas.countLoops();
    }

    public int restore(int slot) throws IndexOutOfBoundsException, IllegalStateException {
        needSlot(slot);
        Rug saved = slots[slot];
        if (saved == null) {
            throw new IllegalStateException("nothing has been saved in the slot");
        }
        rug.copyFrom(saved);
        history.count = 0;
        return rug.canvas.countLoops();
    }

    private void tryText() {
        trial.copyFrom(rug);
        player.play(trial, text);
    }

    /** One turn on the trial; the calls of the rug leave out what would throw an exception. */
    private void simulateTurn(int r) {
        int q = r / 32;
        int kind = r % 32;
        if (kind <= 13) {
            trial.sewUpTo(1 + q % 12);
        } else if (kind <= 16) {
            trial.jumpOver(1 + q % 3);
        } else if (kind <= 19) {
            trial.turnBy(-1);
        } else if (kind <= 22) {
            trial.turnBy(1);
        } else if (kind <= 25) {
            trial.tryThread(q % 5);
        } else if (kind == 26 && q % 4 == 0) {
            trial.tryCut();
        } else if (kind == 27) {
            trial.tryEase();
        } else if (kind == 28) {
            trial.height = 1 + q % 9;
        } else if (kind == 29) {
            trial.tryUnpick(q % 144);
        } else if (kind == 30 && q / 9 % 8 == 0) {
            trial.shearTo(1 + q % 9);
        } else if (kind == 31) {
            player.play(trial, trial.motifAt(q % 4));
        }
    }

    private void needThreaded() {
        if (rug.threaded == NONE) {
            throw new IllegalStateException("the needle is not threaded");
        }
    }

    private void needMotifText() {
        if (text.firstError() != NONE) {
            throw new IllegalStateException("the text is not a motif");
        }
    }

    private static void needCell(int cell) {
        if (cell < 0 || cell >= CELLS) {
            throw new IndexOutOfBoundsException("there is no such cell");
        }
    }

    private static void needColour(int colour) {
        if (colour < 0 || colour >= COLOURS) {
            throw new IndexOutOfBoundsException("there is no such colour");
        }
    }

    private static void needMotif(int motif) {
        if (motif < 0 || motif >= MOTIFS) {
            throw new IndexOutOfBoundsException("a motif's number is 0 to 3");
        }
    }

    private static void needSlot(int slot) {
        if (slot < 0 || slot >= SLOTS) {
            throw new IndexOutOfBoundsException("there is no such save slot");
        }
    }

    private static void needRange(int value, int least, int most) {
        if (value < least || value > most) {
            throw new IllegalArgumentException("an argument is out of its range");
        }
    }

    private static int yarnForLoop(int height) {
        return 2 * height + 4;
    }

    /** The cell beside a cell in a heading; NONE behind the border. */
    private static int beside(int cell, int heading) {
        int column = cell % SIDE;
        int row = cell / SIDE;
        switch (heading) {
            case 0:
                return column < SIDE - 1 ? cell + 1 : NONE;
            case 1:
                return row < SIDE - 1 ? cell + SIDE : NONE;
            case 2:
                return column > 0 ? cell - 1 : NONE;
            default:
                return row > 0 ? cell - SIDE : NONE;
        }
    }

    /** A text of orders: the text buffer, or a stored motif. */
    private static final class Script {
        // What the characters so far leave to come.
        private static final int FIRST_ORDER = 0;
        private static final int NEXT_ORDER = 1;
        private static final int TENS = 2;
        private static final int AFTER_ZERO = 3;
        private static final int AFTER_ONE = 4;
        private static final int COLOUR = 5;
        private static final int HEIGHT = 6;
        private static final int MOTIF = 7;
        private static final int OPENING = 8;
        private static final int REFUSED = 9;

        private final char[] signs = new char[TEXT_LIMIT];
        private int length;

        void add(char sign) {
            if (length >= 0 && length < TEXT_LIMIT) {
                signs[length] = sign;
                length++;
            }
        }

        void copyFrom(Script other) {
            System.arraycopy(other.signs, 0, signs, 0, TEXT_LIMIT);
            length = other.length;
        }

        char signAt(int at) {
            return at >= 0 && at < length && at < TEXT_LIMIT ? signs[at] : (char) 0;
        }

        int digitAt(int at) {
            return signAt(at) - '0';
        }

        int firstError() {
            int awaited = FIRST_ORDER;
            boolean inside = false;
            for (int at = 0; at < length && at < TEXT_LIMIT; at++) {
                char sign = signs[at];
                awaited = awaitedAfter(awaited, sign, inside);
                if (awaited == REFUSED) {
                    return at;
                }
                if (sign == '(') {
                    inside = true;
                } else if (sign == ')') {
                    inside = false;
                }
            }
            return awaited == NEXT_ORDER && !inside ? NONE : length;
        }

        private static int awaitedAfter(int awaited, char sign, boolean inside) {
            switch (awaited) {
                case FIRST_ORDER:
                    return startOfOrder(sign, inside);
                case NEXT_ORDER:
                    return sign == ')' && inside ? NEXT_ORDER : startOfOrder(sign, inside);
                case TENS:
                    return sign == '0' ? AFTER_ZERO : sign == '1' ? AFTER_ONE : REFUSED;
                case AFTER_ZERO:
                    return endOfOrder(sign, '1', '9');
                case AFTER_ONE:
                    return endOfOrder(sign, '0', '2');
                case COLOUR:
                    return endOfOrder(sign, '0', '4');
                case HEIGHT:
                    return endOfOrder(sign, '1', '9');
                case MOTIF:
                    return endOfOrder(sign, '0', '3');
                case OPENING:
                    return sign == '(' ? FIRST_ORDER : REFUSED;
                default:
                    return REFUSED;
            }
        }

        private static int startOfOrder(char sign, boolean inside) {
            switch (sign) {
                case 's':
                case 'j':
                    return TENS;
                case 'l':
                case 'r':
                case 'x':
                case 'e':
                    return NEXT_ORDER;
                case 'c':
                    return COLOUR;
                case 'h':
                    return HEIGHT;
                case 'm':
                    return MOTIF;
                default:
                    return sign >= '2' && sign <= '9' && !inside ? OPENING : REFUSED;
            }
        }

        private static int endOfOrder(char sign, char least, char most) {
            return sign >= least && sign <= most ? NEXT_ORDER : REFUSED;
        }

        /** Whether an order of this motif is a motif with a number from this one on. */
        boolean hasMotifFrom(int number) {
            for (int at = 0; at < length && at < TEXT_LIMIT; at++) {
                if (signs[at] == 'm' && digitAt(at + 1) >= number) {
                    return true;
                }
            }
            return false;
        }
    }

    /** The plan and the cells. */
    private static final class Canvas {
        private static final int EMPTY = NONE;
        private static final int SKIPPED = -2;

        private final int[] plan = new int[CELLS];
        private final int[] loops = new int[CELLS];
        private final int[] heights = new int[CELLS];

        Canvas() {
            for (int cell = 0; cell < CELLS; cell++) {
                plan[cell] = NONE;
                loops[cell] = EMPTY;
            }
        }

        void copyFrom(Canvas other) {
            System.arraycopy(other.plan, 0, plan, 0, CELLS);
            System.arraycopy(other.loops, 0, loops, 0, CELLS);
            System.arraycopy(other.heights, 0, heights, 0, CELLS);
        }

        int planAt(int cell) {
            return cell >= 0 && cell < CELLS ? plan[cell] : NONE;
        }

        int loopAt(int cell) {
            return cell >= 0 && cell < CELLS && loops[cell] >= 0 ? loops[cell] : NONE;
        }

        int heightAt(int cell) {
            return cell >= 0 && cell < CELLS ? heights[cell] : 0;
        }

        boolean skippedAt(int cell) {
            return cell >= 0 && cell < CELLS && loops[cell] == SKIPPED;
        }

        boolean missingAt(int cell) {
            return planAt(cell) != NONE && loopAt(cell) == NONE;
        }

        void setPlanAt(int cell, int colour) {
            if (cell >= 0 && cell < CELLS) {
                plan[cell] = colour;
            }
        }

        int fillBetween(int corner, int across, int colour) {
            int lastColumn = Math.max(corner % SIDE, across % SIDE);
            int lastRow = Math.max(corner / SIDE, across / SIDE);
            int changed = 0;
            for (int row = Math.min(corner / SIDE, across / SIDE); row <= lastRow; row++) {
                for (int column = Math.min(corner % SIDE, across % SIDE); column <= lastColumn; column++) {
                    int cell = SIDE * row + column;
                    if (planAt(cell) != colour) {
                        setPlanAt(cell, colour);
                        changed++;
                    }
                }
            }
            return changed;
        }

        void putLoop(int cell, int colour, int height) {
            if (cell >= 0 && cell < CELLS) {
                loops[cell] = colour;
                heights[cell] = height;
            }
        }

        void putSkipped(int cell) {
            putLoop(cell, SKIPPED, 0);
        }

        void clearCell(int cell) {
            putLoop(cell, EMPTY, 0);
        }

        int countLoops() {
            int count = 0;
            for (int cell = 0; cell < CELLS; cell++) {
                count += loops[cell] >= 0 ? 1 : 0;
            }
            return count;
        }

        int countRight() {
            int count = 0;
            for (int cell = 0; cell < CELLS; cell++) {
                count += loops[cell] >= 0 && loops[cell] == plan[cell] ? 1 : 0;
            }
            return count;
        }

        int countMissing() {
            int count = 0;
            for (int cell = 0; cell < CELLS; cell++) {
                count += missingAt(cell) ? 1 : 0;
            }
            return count;
        }

        int countMissingOf(int colour) {
            int count = 0;
            for (int cell = 0; cell < CELLS; cell++) {
                count += plan[cell] == colour && missingAt(cell) ? 1 : 0;
            }
            return count;
        }

        int countSkipped() {
            int count = 0;
            for (int cell = 0; cell < CELLS; cell++) {
                count += loops[cell] == SKIPPED ? 1 : 0;
            }
            return count;
        }

        int sumHeights() {
            int sum = 0;
            for (int cell = 0; cell < CELLS; cell++) {
                sum += heights[cell];
            }
            return sum;
        }

        int yarnInLoops(int colour) {
            int sum = 0;
            for (int cell = 0; cell < CELLS; cell++) {
                sum += loops[cell] == colour ? yarnForLoop(heights[cell]) : 0;
            }
            return sum;
        }

        int nearestInRings(int from, int colour) {
            for (int ring = 0; ring <= 2 * (SIDE - 1); ring++) {
                int cell = firstInRing(from, ring, colour);
                if (cell != NONE) {
                    return cell;
                }
            }
            return NONE;
        }

        /** Goes through a ring row by row, so that the first cell is the one with the lowest number. */
        private int firstInRing(int from, int ring, int colour) {
            for (int row = 0; row < SIDE; row++) {
                int aside = ring - Math.abs(row - from / SIDE);
                if (aside >= 0) {
                    if (missesAt(from % SIDE - aside, row, colour)) {
                        return SIDE * row + from % SIDE - aside;
                    }
                    if (missesAt(from % SIDE + aside, row, colour)) {
                        return SIDE * row + from % SIDE + aside;
                    }
                }
            }
            return NONE;
        }

        private boolean missesAt(int column, int row, int colour) {
            int cell = SIDE * row + column;
            return column >= 0 && column < SIDE && planAt(cell) == colour && missingAt(cell);
        }

        int nearestInCells(int from, int colour) {
            int nearest = NONE;
            int least = 2 * SIDE;
            for (int cell = 0; cell < CELLS; cell++) {
                int away = Math.abs(cell % SIDE - from % SIDE) + Math.abs(cell / SIDE - from / SIDE);
                if (plan[cell] == colour && missingAt(cell) && away < least) {
                    nearest = cell;
                    least = away;
                }
            }
            return nearest;
        }
    }

    /** Counts areas of the plan, in two ways, with rows that are used again. */
    private static final class Areas {
        private final boolean[] open = new boolean[CELLS];
        private final int[] reached = new int[CELLS];
        private int reachedCount;
        private final int[] chief = new int[CELLS];

        int countSpreading(Canvas canvas, int colour) {
            for (int cell = 0; cell < CELLS; cell++) {
                open[cell] = canvas.planAt(cell) == colour;
            }
            int count = 0;
            for (int cell = 0; cell < CELLS; cell++) {
                if (open[cell]) {
                    count++;
                    spreadFrom(cell);
                }
            }
            return count;
        }

        private void spreadFrom(int start) {
            reachedCount = 0;
            reach(start);
            for (int done = 0; done < reachedCount && done < CELLS; done++) {
                for (int heading = 0; heading < HEADINGS; heading++) {
                    reach(beside(reached[done], heading));
                }
            }
        }

        private void reach(int cell) {
            if (cell >= 0 && cell < CELLS && open[cell] && reachedCount >= 0 && reachedCount < CELLS) {
                open[cell] = false;
                reached[reachedCount] = cell;
                reachedCount++;
            }
        }

        int countJoining(Canvas canvas, int colour) {
            for (int cell = 0; cell < CELLS; cell++) {
                chief[cell] = cell;
            }
            int count = 0;
            for (int cell = 0; cell < CELLS; cell++) {
                if (canvas.planAt(cell) == colour) {
                    count++;
                    count -= joinBeside(canvas, cell, 2) ? 1 : 0;
                    count -= joinBeside(canvas, cell, 3) ? 1 : 0;
                }
            }
            return count;
        }

        /** Joins a cell with the one beside it, if the plan tells one colour for both; whether two areas became one. */
        private boolean joinBeside(Canvas canvas, int cell, int heading) {
            int other = beside(cell, heading);
            if (other == NONE || canvas.planAt(other) != canvas.planAt(cell)) {
                return false;
            }
            int first = chiefOf(cell);
            int second = chiefOf(other);
            if (first == second || first < 0 || first >= CELLS) {
                return false;
            }
            chief[first] = second;
            return true;
        }

        private int chiefOf(int cell) {
            int at = cell;
            for (int step = 0; step < CELLS && at >= 0 && at < CELLS && chief[at] != at; step++) {
                at = chief[at];
            }
            return at;
        }
    }

    /** The cones, and where their yarn went, but for the loops of now: those the canvas tells. */
    private static final class Yarn {
        private static final int THOUSAND = 1000;
        private static final int FULL = 8000;
        private static final int END = 20;

        private final int[] cones = new int[COLOURS];
        private final int[] puts = new int[COLOURS];
        private final int[] floats = new int[COLOURS];
        private final int[] ends = new int[COLOURS];
        private final int[] waste = new int[COLOURS];

        Yarn() {
            for (int colour = 0; colour < COLOURS; colour++) {
                cones[colour] = FULL;
                puts[colour] = FULL;
            }
        }

        void copyFrom(Yarn other) {
            System.arraycopy(other.cones, 0, cones, 0, COLOURS);
            System.arraycopy(other.puts, 0, puts, 0, COLOURS);
            System.arraycopy(other.floats, 0, floats, 0, COLOURS);
            System.arraycopy(other.ends, 0, ends, 0, COLOURS);
            System.arraycopy(other.waste, 0, waste, 0, COLOURS);
        }

        int onCone(int colour) {
            return colour >= 0 && colour < COLOURS ? cones[colour] : 0;
        }

        boolean hasEnd(int colour) {
            return onCone(colour) >= END;
        }

        int drawn(int colour) {
            return colour >= 0 && colour < COLOURS ? puts[colour] - cones[colour] : 0;
        }

        int wasted(int colour) {
            return colour >= 0 && colour < COLOURS ? waste[colour] : 0;
        }

        int outsideLoops(int colour) {
            return colour >= 0 && colour < COLOURS ? floats[colour] + ends[colour] + waste[colour] : 0;
        }

        void putOn(int colour, int millimetres) {
            if (colour >= 0 && colour < COLOURS) {
                cones[colour] += millimetres;
                puts[colour] += millimetres;
            }
        }

        /** Draws so much, or what the cone has, if it has less; returns how much. */
        int draw(int colour, int millimetres) {
            if (colour < 0 || colour >= COLOURS) {
                return 0;
            }
            int taken = cones[colour] < millimetres ? cones[colour] : millimetres;
            cones[colour] -= taken;
            return taken;
        }

        void drawFloat(int colour, int millimetres) {
            int taken = draw(colour, millimetres);
            if (colour >= 0 && colour < COLOURS) {
                floats[colour] += taken;
            }
        }

        void drawEnd(int colour) {
            int taken = draw(colour, END);
            if (colour >= 0 && colour < COLOURS) {
                ends[colour] += taken;
            }
        }

        /** Makes waste of yarn that has been drawn before. */
        void addWaste(int colour, int millimetres) {
            if (colour >= 0 && colour < COLOURS) {
                waste[colour] += millimetres;
            }
        }
    }

    /** The whole state: what actions change, and what is remembered and saved. */
    private static final class Rug {
        private static final int TIGHT = 10;
        private static final int TENSION_BY_KNOT = 4;
        private static final int TENSION_AFTER_SKIP = 2;
        private static final int TENSION_BY_TURN = 2;
        private static final int HIGH_LOOP = 6;
        private static final int SKIP_FLOAT = 4;
        private static final int JUMP_FLOAT = 8;
        private static final int EASING = 10;

        private final Canvas canvas = new Canvas();
        private final Yarn yarn = new Yarn();
        private final Script[] motifs = new Script[MOTIFS];
        private int needle;
        private int heading;
        private int threaded = NONE;
        private int height = 4;
        private int tension;
        private int knots;

        Rug() {
            for (int motif = 0; motif < MOTIFS; motif++) {
                motifs[motif] = new Script();
            }
        }

        void copyFrom(Rug other) {
            canvas.copyFrom(other.canvas);
            yarn.copyFrom(other.yarn);
            for (int motif = 0; motif < MOTIFS; motif++) {
                keepMotif(motif, other.motifs[motif]);
            }
            needle = other.needle;
            heading = other.heading;
            threaded = other.threaded;
            height = other.height;
            tension = other.tension;
            knots = other.knots;
        }

        void keepMotif(int motif, Script script) {
            if (motif >= 0 && motif < MOTIFS && motifs[motif] != null && script != null) {
                motifs[motif].copyFrom(script);
            }
        }

        /** The motif that is stored with a number; null if there is none. */
        Script motifAt(int motif) {
            if (motif < 0 || motif >= MOTIFS || motifs[motif] == null || motifs[motif].length == 0) {
                return null;
            }
            return motifs[motif];
        }

        boolean isTight() {
            return tension >= TIGHT;
        }

        int reasonAgainstStitch() {
            if (threaded == NONE) {
                return 1;
            }
            if (canvas.loopAt(needle) != NONE) {
                return 2;
            }
            return yarn.onCone(threaded) < yarnForLoop(height) ? 3 : 0;
        }

        int reasonAgainstMending(int cell) {
            if (!canvas.missingAt(cell)) {
                return 1;
            }
            return yarn.onCone(canvas.planAt(cell)) < yarnForLoop(height) ? 2 : 0;
        }

        int sewUpTo(int stitches) {
            int done = 0;
            boolean goesOn = true;
            while (goesOn && done < stitches && reasonAgainstStitch() == 0) {
                punch();
                done++;
                goesOn = goOn();
            }
            return done;
        }

        private void punch() {
            int before = yarn.drawn(threaded);
            if (isTight()) {
                canvas.putSkipped(needle);
                yarn.drawFloat(threaded, SKIP_FLOAT);
                tension = TENSION_AFTER_SKIP;
            } else {
                canvas.putLoop(needle, threaded, height);
                yarn.draw(threaded, yarnForLoop(height));
                tension += height > HIGH_LOOP ? 2 : 1;
            }
            feelKnot(before);
        }

        /** The knot that went through the needle, if the yarn drawn since then went over a thousand. */
        private void feelKnot(int drawnBefore) {
            if (yarn.drawn(threaded) / Yarn.THOUSAND > drawnBefore / Yarn.THOUSAND) {
                tension += TENSION_BY_KNOT;
                knots++;
            }
        }

        private boolean goOn() {
            int next = beside(needle, heading);
            if (next == NONE) {
                return false;
            }
            needle = next;
            return true;
        }

        int jumpOver(int cells) {
            int done = 0;
            while (done < cells && goOn()) {
                done++;
                if (threaded != NONE) {
                    int before = yarn.drawn(threaded);
                    yarn.drawFloat(threaded, JUMP_FLOAT);
                    tension++;
                    feelKnot(before);
                }
            }
            return done;
        }

        void turnBy(int quarters) {
            heading = Math.floorMod(heading + quarters, HEADINGS);
            if (threaded != NONE) {
                tension += TENSION_BY_TURN;
            }
        }

        boolean tryThread(int colour) {
            if (!yarn.hasEnd(colour)) {
                return false;
            }
            tryCut();
            yarn.drawEnd(colour);
            threaded = colour;
            tension = 0;
            return true;
        }

        boolean tryCut() {
            if (threaded == NONE) {
                return false;
            }
            yarn.drawEnd(threaded);
            threaded = NONE;
            tension = 0;
            return true;
        }

        boolean tryEase() {
            if (threaded == NONE) {
                return false;
            }
            yarn.addWaste(threaded, yarn.draw(threaded, EASING));
            tension = 0;
            return true;
        }

        void mendAt(int cell) {
            int colour = canvas.planAt(cell);
            yarn.draw(colour, yarnForLoop(height));
            canvas.putLoop(cell, colour, height);
        }

        void tryUnpick(int cell) {
            int colour = canvas.loopAt(cell);
            if (colour != NONE) {
                yarn.addWaste(colour, yarnForLoop(canvas.heightAt(cell)));
                canvas.clearCell(cell);
            }
        }

        int shearTo(int most) {
            int sheared = 0;
            for (int cell = 0; cell < CELLS; cell++) {
                int above = canvas.heightAt(cell) - most;
                if (above > 0) {
                    int colour = canvas.loopAt(cell);
                    canvas.putLoop(cell, colour, most);
                    yarn.addWaste(colour, 2 * above);
                    sheared++;
                }
            }
            return sheared;
        }
    }

    /** The remembered states, in a ring of rugs that are used again. */
    private static final class History {
        private static final int MOST = 14;

        private final Rug[] states = new Rug[MOST];
        private int oldest;
        private int count;

        void remember(Rug rug) {
            if (count >= MOST) {
                oldest = Math.floorMod(oldest + 1, MOST);
                count = MOST - 1;
            }
            int at = Math.floorMod(oldest + count, MOST);
            if (states[at] == null) {
                states[at] = new Rug();
            }
            states[at].copyFrom(rug);
            count++;
        }

        void takeBack(Rug rug) {
            int at = Math.floorMod(oldest + count - 1, MOST);
            if (count > 0 && states[at] != null) {
                rug.copyFrom(states[at]);
                count--;
            }
        }
    }

    /** Does the orders of motifs; a level for each motif that is open in another one. */
    private static final class Player {
        private static final int MOST_ORDERS = 400;
        // Far above the orders, the ends of groups and the ends of motifs that a run can have.
        private static final int MOST_STEPS = 1000000;
        // The text, and in it one motif of each number: each has a lower number than the one around it.
        private static final int LEVELS = MOTIFS + 1;

        private final Script[] scripts = new Script[LEVELS];
        private final int[] places = new int[LEVELS];
        private final int[] groups = new int[LEVELS];
        private final int[] times = new int[LEVELS];
        private int level;
        private int orders;
        private int broken;

        /** Does the orders of a motif, none if it is null; returns how many are broken. */
        int play(Rug rug, Script script) {
            level = NONE;
            orders = 0;
            broken = 0;
            enter(script);
            for (int step = 0; step < MOST_STEPS && orders < MOST_ORDERS && level >= 0 && level < LEVELS; step++) {
                Script open = scripts[level];
                int at = places[level];
                if (open == null || at >= open.length) {
                    level--;
                } else if (open.signAt(at) == ')') {
                    endGroup(at);
                } else {
                    orders++;
                    broken += doOrder(rug, open, at) ? 0 : 1;
                }
            }
            return broken;
        }

        private boolean enter(Script script) {
            if (script == null || level < NONE || level >= LEVELS - 1) {
                return false;
            }
            level++;
            scripts[level] = script;
            places[level] = 0;
            times[level] = 0;
            return true;
        }

        private void endGroup(int at) {
            if (level >= 0 && level < LEVELS) {
                times[level]--;
                places[level] = times[level] > 0 ? groups[level] : at + 1;
            }
        }

        private void startGroup(int at, int count) {
            if (level >= 0 && level < LEVELS) {
                groups[level] = at;
                times[level] = count;
            }
        }

        private void goTo(int at) {
            if (level >= 0 && level < LEVELS) {
                places[level] = at;
            }
        }

        /** Does the order at a place; returns whether it was done as told. */
        private boolean doOrder(Rug rug, Script script, int at) {
            char sign = script.signAt(at);
            int digit = script.digitAt(at + 1);
            int number = 10 * digit + script.digitAt(at + 2);
            goTo(at + signsOf(sign));
            switch (sign) {
                case 's':
                    return rug.sewUpTo(number) == number;
                case 'j':
                    return rug.jumpOver(number) == number;
                case 'l':
                    rug.turnBy(-1);
                    return true;
                case 'r':
                    rug.turnBy(1);
                    return true;
                case 'c':
                    return rug.tryThread(digit);
                case 'h':
                    rug.height = digit;
                    return true;
                case 'x':
                    return rug.tryCut();
                case 'e':
                    return rug.tryEase();
                case 'm':
                    return enter(rug.motifAt(digit));
                default:
                    startGroup(at + 2, sign - '0');
                    return true;
            }
        }

        /** How many signs an order has; of a group, the digit and "(" alone. */
        private static int signsOf(char sign) {
            switch (sign) {
                case 's':
                case 'j':
                    return 3;
                case 'l':
                case 'r':
                case 'x':
                case 'e':
                    return 1;
                default:
                    return 2;
            }
        }
    }
}
