import java.util.Arrays;

/**
 * The land must follow the map: a land of cells, the map that says what it
 * should be, drawers who draw maps by turns, and the digging that follows.
 *
 * All rows are made once, in the constructors, and used again by every call.
 */
public final class LandByMap {
    private static final int LEAST_SIDE = 2;
    private static final int MOST_SIDE = 4;
    private static final int MOST_CELLS = 16;
    private static final int MOST_NEAR = 6;
    private static final int SIDES = 4;
    private static final int HEIGHTS = 10;
    private static final int TOP = 9;
    private static final int MOST_HOURS = 999;
    private static final int MOST_LAW = 2;
    private static final int MOST_DRAWERS = 6;
    private static final int MOST_WISHES = 4;
    private static final int MOST_WORTH = 99;
    private static final int WORTH_LOST_A_STEP = 10;
    private static final int MOST_ELEMENTS = 100;
    private static final int SHELVES = 8;
    private static final int MOST_SEEDED = 30;
    private static final int MOST_RINGS = 30;
    private static final int YEARS_IN_MIND = 60;
    private static final int TOO_FAR_ACROSS = 2;

    private static final int UNSAID = -1;
    private static final int UNSAID_IN_ROWS = 99;

    private static final int NO_SUCH = -1;
    private static final int CANNOT = -3;
    private static final int NONE = -4;
    private static final int NOTHING_HELD = -11;
    private static final int OTHER_KIND = -12;
    private static final int NO_PLACE = -13;
    private static final int BELOW_NO_SIZE = -14;
    private static final int NO_FAILURE = -15;
    private static final int BELOW_ALL_ANSWERS = -1000000000;

    private static final int KIND_DRAWER = 0;
    private static final int KIND_OWN = 1;
    private static final int KIND_ALL = 2;
    private static final int KIND_SMALL = 3;
    private static final int KIND_AHEAD = 4;
    private static final int KIND_TOLD = 5;
    private static final int KIND_BLOT = 6;
    private static final int KIND_COPY = 7;

    private static final int BYTES = 0;
    private static final int SHORTS = 1;
    private static final int INTS = 2;
    private static final int LEAST_BYTE = -128;
    private static final int LEAST_SHORT = -32768;
    private static final int LEAST_INT = -2147483648;
    private static final int ALL_BUT_THE_SIGN = 0x7fffffff;

    private final Land here = new Land();
    private final Land mind = new Land();
    private final Land draft = new Land();
    private final Land picture = new Land();
    private boolean pictured = false;
    private final Shelf[] shelves = new Shelf[SHELVES];
    private final Text text = new Text();
    private final Desk desk = new Desk();
    private final Digging digging = new Digging();
    private final int[] plan = new int[MOST_CELLS];
    private final int[] before = new int[MOST_CELLS];
    private final int[][] plans = new int[MOST_DRAWERS][MOST_CELLS];
    private final int[] votes = new int[MOST_DRAWERS];

    public LandByMap() {
        for (int d = 0; d < SHELVES; d++) {
            shelves[d] = new Shelf();
        }
    }

    // ---- lands

    public int land(int d) {
        Shelf shelf = shelfAt(d);
        if (shelf == null) {
            return NO_SUCH;
        }
        int refusal = shelf.refusalAsBytes();
        if (refusal != 0) {
            return refusal;
        }
        text.open(shelf.elements, shelf.size);
        int fault = text.faultOfForm();
        if (fault != 0) {
            return fault;
        }
        // A text comes wholly or not at all, so it is tried on a draft.
        draft.takeFrom(here);
        int answer = text.writeTo(draft);
        if (answer > 0) {
            here.takeFrom(draft);
        }
        return answer;
    }

    public int cell(int cell, int what) {
        if (!here.isCell(cell)) {
            return NO_SUCH;
        }
        switch (what) {
            case 0:
                return here.heights[cell];
            case 1:
                return here.houses[cell] ? 1 : 0;
            case 2:
                return here.told(cell);
            case 3:
                return here.isOnWay(cell) ? 1 : 0;
            default:
                return NO_SUCH;
        }
    }

    public int state(int what) {
        switch (what) {
            case 0:
                return here.rows;
            case 1:
                return here.columns;
            case 2:
                return here.hours;
            case 3:
                return here.law;
            case 4:
                return here.year;
            case 5:
                return here.spring;
            default:
                return NO_SUCH;
        }
    }

    public int set(int what, int n) {
        if (what == 0 && n >= 0 && n <= MOST_HOURS) {
            int was = here.hours;
            here.hours = n;
            return was;
        }
        if (what == 1 && n >= 0 && n <= MOST_LAW) {
            int was = here.law;
            here.law = n;
            return was;
        }
        return NO_SUCH;
    }

    public int says(int cell, int height) {
        if (!here.isCell(cell) || height < UNSAID || height > TOP) {
            return NO_SUCH;
        }
        int was = here.told(cell);
        here.said[cell] = height;
        return was;
    }

    public int map(int d) {
        Shelf shelf = shelfAt(d);
        if (shelf == null) {
            return NO_SUCH;
        }
        int refusal = shelf.refusalAsBytes();
        if (refusal != 0) {
            return refusal;
        }
        if (!shelf.isMapOf(here.cells)) {
            return NO_PLACE;
        }
        for (int c = 0; c < here.cells; c++) {
            here.said[c] = shelf.heightAt(c);
        }
        return here.saidCells();
    }

    // ---- water, hauls

    public int water(int what) {
        int length = here.followWater();
        switch (what) {
            case 0:
                return here.standsAt(length);
            case 1:
                return length;
            case 2:
                return here.isRim(here.standsAt(length)) ? 1 : 0;
            default:
                return NO_SUCH;
        }
    }

    public int hours(int from, int to) {
        int refusal = refusalOfHaul(from, to);
        return refusal != 0 ? refusal : here.haulHours(from, to);
    }

    public int haul(int from, int to) {
        int refusal = refusalOfHaul(from, to);
        if (refusal != 0) {
            return refusal;
        }
        int spent = here.haulHours(from, to);
        here.shift(from, to);
        return spent;
    }

    public int like(int what) {
        switch (what) {
            case 0:
                return here.firstUnlike();
            case 1:
                return here.offTheMap();
            default:
                return NO_SUCH;
        }
    }

    public int least() {
        return digging.leastHours(here, here.said);
    }

    public int works(int d) {
        Shelf shelf = shelfAt(d);
        if (shelf == null) {
            return NO_SUCH;
        }
        int refusal = shelf.refusalAsBytes();
        if (refusal != 0) {
            return refusal;
        }
        mind.takeFrom(here);
        boolean wasLost = mind.isLost();
        int spent = 0;
        for (int i = 0; i + 1 < shelf.size; i += 2) {
            int from = shelf.at(i);
            int to = shelf.at(i + 1);
            if (!mind.canHaul(from, to)) {
                return i;
            }
            spent += mind.haulHours(from, to);
            mind.shift(from, to);
            if (spent > mind.hours || (wasLost && !mind.isLost())) {
                return i;
            }
        }
        return (shelf.size & 1) == 1 ? shelf.size : NONE;
    }

    public int dig(int what) {
        if (what < 0 || what > 2) {
            return NO_SUCH;
        }
        mind.takeFrom(here);
        digging.follow(mind);
        if (what == 0) {
            return mind.offTheMap();
        }
        return what == 1 ? digging.steps : digging.left;
    }

    // ---- drawers, years

    public int drawer(int drawer, int what) {
        Drawer asked = here.drawerAt(drawer);
        if (asked == null) {
            return NO_SUCH;
        }
        switch (what) {
            case 0:
                return asked.kind;
            case 1:
                return asked.figure;
            case 2:
                return here.wishCounts[drawer];
            case 3:
                return here.worthTo(drawer, here.heights);
            default:
                return NO_SUCH;
        }
    }

    public int draws(int drawer, int cell) {
        if (here.drawerAt(drawer) == null || !here.isCell(cell)) {
            return NO_SUCH;
        }
        desk.sketch(here, drawer, plan);
        return plan[cell];
    }

    public int year() {
        int drawers = here.drawerCount;
        if (drawers < 1) {
            return CANNOT;
        }
        return passYear(here, here.year % drawers);
    }

    public int still() {
        int drawers = here.drawerCount;
        if (drawers < 1) {
            return CANNOT;
        }
        mind.takeFrom(here);
        int quiet = 0;
        for (int passed = 1; passed <= YEARS_IN_MIND; passed++) {
            int off = passYear(mind, mind.year % drawers);
            quiet = off == 0 ? quiet + 1 : 0;
            if (quiet == drawers) {
                return passed - drawers;
            }
        }
        return NONE;
    }

    public int rings() {
        int drawers = here.drawerCount;
        if (drawers < 1) {
            return CANNOT;
        }
        mind.takeFrom(here);
        for (int passed = 0; passed < YEARS_IN_MIND; passed++) {
            passYear(mind, mind.year % drawers);
        }
        // The draft serves as a second land in mind: the one behind 60 years.
        draft.takeFrom(mind);
        for (int n = 1; n <= MOST_RINGS; n++) {
            passYear(mind, mind.year % drawers);
            if (mind.offFrom(draft.heights) == 0) {
                return n;
            }
        }
        return NONE;
    }

    public int seeded(int n, int z, int what) {
        if (n < 1 || n > MOST_SEEDED || what < 0 || what > 1) {
            return NO_SUCH;
        }
        int drawers = here.drawerCount;
        if (drawers < 1) {
            return CANNOT;
        }
        mind.takeFrom(here);
        int seed = z;
        int changed = 0;
        for (int passed = 0; passed < n; passed++) {
            seed = seed * 1103515245 + 12345;
            int who = ((seed & ALL_BUT_THE_SIGN) >> 16) % drawers;
            if (passYear(mind, who) != 0) {
                changed++;
            }
        }
        return what == 0 ? mind.offFrom(here.heights) : changed;
    }

    // ---- sheets, blots, who is chosen

    public int seam(int d, int e, int column, boolean join) {
        Shelf first = shelfAt(d);
        Shelf second = shelfAt(e);
        if (first == null || second == null || column < 1 || column >= here.columns) {
            return NO_SUCH;
        }
        if (first.isEmpty() || second.isEmpty()) {
            return NOTHING_HELD;
        }
        if (!first.holdsRowOf(BYTES) || !second.holdsRowOf(BYTES)) {
            return OTHER_KIND;
        }
        if (!first.isMapOf(here.cells) || !second.isMapOf(here.cells)) {
            return NO_PLACE;
        }
        int steep = 0;
        for (int c = 0; c < here.cells; c++) {
            boolean left = here.columnOf[c] < column;
            plan[c] = left ? first.heightAt(c) : second.heightAt(c);
            // The left one of the two was written just ahead of this one.
            if (here.columnOf[c] == column && c > 0 && isSteep(plan[c - 1], plan[c])) {
                steep++;
            }
        }
        if (join) {
            System.arraycopy(plan, 0, here.said, 0, MOST_CELLS);
        }
        return steep;
    }

    public int blot(int up, int down) {
        if (!here.isCell(up) || !here.isCell(down) || up == down) {
            return BELOW_ALL_ANSWERS + NO_SUCH;
        }
        int higher = here.wanted(up) + 1;
        int lower = here.wanted(down) - 1;
        if (higher > TOP || lower < 0) {
            return BELOW_ALL_ANSWERS + CANNOT;
        }
        System.arraycopy(here.said, 0, plan, 0, MOST_CELLS);
        plan[up] = higher;
        plan[down] = lower;
        int blotted = digging.leastHours(here, plan);
        int clean = digging.leastHours(here, here.said);
        if (blotted < 0 || clean < 0) {
            return BELOW_ALL_ANSWERS + NONE;
        }
        return blotted - clean;
    }

    public int harm(int from, int to) {
        int refusal = refusalOfHaul(from, to);
        if (refusal != 0) {
            return BELOW_ALL_ANSWERS + refusal;
        }
        int now = here.worthToAll(here.heights);
        here.shift(from, to);
        int then = here.worthToAll(here.heights);
        here.shift(to, from);
        return now - then;
    }

    public int chosen(int what) {
        if (what < 0 || what > 2) {
            return NO_SUCH;
        }
        int drawers = here.drawerCount;
        if (drawers < 1) {
            return CANNOT;
        }
        for (int k = 0; k < drawers; k++) {
            desk.sketch(here, k, plans[k]);
        }
        if (what == 2) {
            return bestForAll(drawers);
        }
        castVotes(drawers);
        int first = 0;
        for (int k = 1; k < drawers; k++) {
            if (votes[k] > votes[first]) {
                first = k;
            }
        }
        return what == 0 ? first : votes[first];
    }

    public int judge(int d) {
        Shelf shelf = shelfAt(d);
        if (shelf == null) {
            return NO_SUCH;
        }
        int refusal = shelf.refusalAsRow();
        if (refusal != 0) {
            return refusal;
        }
        int skipped = shelf.leastNumber();
        for (int c = 0; c < here.cells && c < shelf.size; c++) {
            int told = shelf.at(c);
            if (told != skipped && told != here.heights[c]) {
                return c;
            }
        }
        if (shelf.size == here.cells) {
            return NONE;
        }
        return Math.min(shelf.size, here.cells);
    }

    // ---- the image, what is told

    public int image() {
        picture.takeFrom(here);
        pictured = true;
        return here.year;
    }

    public int restore() {
        if (!pictured) {
            return CANNOT;
        }
        here.takeFrom(picture);
        return here.year;
    }

    public int count(int what) {
        switch (what) {
            case 0:
                return here.cells;
            case 1:
                return here.drawerCount;
            case 2:
                return here.houseCount();
            case 3:
                return here.saidCells();
            case 4:
                return here.allHeights();
            case 5:
                return here.allWishes();
            default:
                return NO_SUCH;
        }
    }

    // ---- shelves

    public int keep(int d, int what, int k) {
        Shelf shelf = shelfAt(d);
        if (shelf == null || what < 0 || what > 1) {
            return NO_SUCH;
        }
        if (what == 0) {
            shelf.holdNothing();
            return 0;
        }
        Drawer kept = here.drawerAt(k);
        if (kept == null) {
            return NO_SUCH;
        }
        shelf.holdDrawer(kept);
        return 0;
    }

    public int row(int d, int sort, int n) {
        Shelf shelf = shelfAt(d);
        if (shelf == null || sort < BYTES || sort > INTS || n > MOST_ELEMENTS) {
            return NO_SUCH;
        }
        if (n < 0) {
            return BELOW_NO_SIZE;
        }
        shelf.holdRow(sort, n);
        return 0;
    }

    public int put(int d, int i, int v) {
        Shelf shelf = shelfAt(d);
        if (shelf == null) {
            return NO_SUCH;
        }
        int refusal = shelf.refusalAsRow();
        if (refusal != 0) {
            return refusal;
        }
        if (!shelf.hasPlace(i)) {
            return NO_PLACE;
        }
        shelf.write(i, v);
        return 0;
    }

    public long element(int d, int i) throws IllegalArgumentException, IllegalStateException {
        Shelf shelf = shelfAt(d);
        if (shelf == null) {
            throw new IllegalArgumentException("no such shelf");
        }
        if (!shelf.isRow || !shelf.hasPlace(i)) {
            throw new IllegalStateException("no row, or no such place in it");
        }
        return shelf.at(i);
    }

    public int copy(int d, int i, int e, int j, int n) {
        Shelf from = shelfAt(d);
        Shelf to = shelfAt(e);
        if (from == null || to == null) {
            return NO_SUCH;
        }
        if (from.isEmpty() || to.isEmpty()) {
            return NOTHING_HELD;
        }
        if (!from.isRow || !to.holdsRowOf(from.sort)) {
            return OTHER_KIND;
        }
        if (!from.hasPlaces(i, n) || !to.hasPlaces(j, n)) {
            return NO_PLACE;
        }
        System.arraycopy(from.elements, i, to.elements, j, n);
        return n;
    }

    public int price(int d) {
        Shelf shelf = shelfAt(d);
        if (shelf == null) {
            return NO_SUCH;
        }
        if (shelf.isEmpty()) {
            return NOTHING_HELD;
        }
        return shelf.drawer == null ? OTHER_KIND : shelf.drawer.cost();
    }

    public int toss(int d) {
        Shelf shelf = shelfAt(d);
        if (shelf == null) {
            return NO_SUCH;
        }
        if (shelf.isEmpty()) {
            return NOTHING_HELD;
        }
        Drawer tossed = shelf.drawer;
        if (tossed == null) {
            return OTHER_KIND;
        }
        try {
            tossed.fail();
        } catch (IllegalStateException plain) {
            return tossed.number;
        } catch (UnsupportedOperationException ahead) {
            return 100 + tossed.number;
        } catch (IllegalArgumentException blotted) {
            return 200 + tossed.cost();
        }
        return NO_FAILURE;
    }

    // ---- what the calls share

    private Shelf shelfAt(int d) {
        return d >= 0 && d < SHELVES ? shelves[d] : null;
    }

    private int refusalOfHaul(int from, int to) {
        if (!here.isCell(from) || !here.isCell(to) || from == to) {
            return NO_SUCH;
        }
        return here.canHaul(from, to) ? 0 : CANNOT;
    }

    /** A drawer's map becomes the map, the land is dug by it: how far off it then is from what it was. */
    private int passYear(Land land, int who) {
        desk.sketch(land, who, plan);
        System.arraycopy(land.heights, 0, before, 0, MOST_CELLS);
        System.arraycopy(plan, 0, land.said, 0, MOST_CELLS);
        digging.follow(land);
        land.year++;
        return land.offFrom(before);
    }

    private static boolean isSteep(int left, int right) {
        return left != UNSAID && right != UNSAID && Math.abs(left - right) > TOO_FAR_ACROSS;
    }

    private void castVotes(int drawers) {
        Arrays.fill(votes, 0);
        for (int k = 0; k < drawers; k++) {
            int favourite = 0;
            int most = here.worthTo(k, plans[0]);
            for (int other = 1; other < drawers; other++) {
                int worth = here.worthTo(k, plans[other]);
                if (worth > most) {
                    most = worth;
                    favourite = other;
                }
            }
            votes[favourite]++;
        }
    }

    private int bestForAll(int drawers) {
        int best = 0;
        int most = here.worthToAll(plans[0]);
        for (int k = 1; k < drawers; k++) {
            int worth = here.worthToAll(plans[k]);
            if (worth > most) {
                most = worth;
                best = k;
            }
        }
        return best;
    }

    /** All that the image holds; a class of its own, so that years can go by in mind on another one. */
    private static final class Land {
        int rows;
        int columns;
        int cells;
        int spring;
        int hours = 60;
        int law = 0;
        int year = 0;
        int drawerCount = 0;
        final int[] columnOf = new int[MOST_CELLS];
        private final int[] nears = new int[MOST_CELLS * MOST_CELLS];
        private final int[] beside = new int[MOST_CELLS * SIDES];
        final int[] heights = new int[MOST_CELLS];
        final int[] said = new int[MOST_CELLS];
        final boolean[] houses = new boolean[MOST_CELLS];
        final Drawer[] drawers = new Drawer[MOST_DRAWERS];
        final int[] wishCounts = new int[MOST_DRAWERS];
        final int[] wishCells = new int[MOST_DRAWERS * MOST_WISHES];
        final int[] wishHeights = new int[MOST_DRAWERS * MOST_WISHES];
        final int[] wishWorths = new int[MOST_DRAWERS * MOST_WISHES];
        final int[] way = new int[HEIGHTS];

        Land() {
            renew(3, 3);
        }

        void renew(int newRows, int newColumns) {
            rows = newRows;
            columns = newColumns;
            cells = newRows * newColumns;
            spring = 0;
            Arrays.fill(heights, 2);
            Arrays.fill(said, UNSAID);
            for (int c = 0; c < MOST_CELLS; c++) {
                houses[c] = false;
            }
            int cell = 0;
            for (int r = 0; r < rows; r++) {
                for (int c = 0; c < columns && cell < MOST_CELLS; c++) {
                    layOut(cell, r, c);
                    cell++;
                }
            }
        }

        /** What lies round a cell is reckoned once, since water and hauls ask for it all the time. */
        private void layOut(int cell, int r, int c) {
            columnOf[cell] = c;
            int side = cell * SIDES;
            beside[side] = r > 0 ? cell - columns : -1;
            beside[side + 1] = c < columns - 1 ? cell + 1 : -1;
            beside[side + 2] = r < rows - 1 ? cell + columns : -1;
            beside[side + 3] = c > 0 ? cell - 1 : -1;
            int other = 0;
            for (int y = 0; y < rows; y++) {
                for (int x = 0; x < columns && other < MOST_CELLS; x++) {
                    nears[cell * MOST_CELLS + other] = Math.abs(r - y) + Math.abs(c - x);
                    other++;
                }
            }
        }

        void takeFrom(Land other) {
            rows = other.rows;
            columns = other.columns;
            cells = other.cells;
            spring = other.spring;
            hours = other.hours;
            law = other.law;
            year = other.year;
            drawerCount = other.drawerCount;
            System.arraycopy(other.columnOf, 0, columnOf, 0, MOST_CELLS);
            System.arraycopy(other.nears, 0, nears, 0, MOST_CELLS * MOST_CELLS);
            System.arraycopy(other.beside, 0, beside, 0, MOST_CELLS * SIDES);
            System.arraycopy(other.heights, 0, heights, 0, MOST_CELLS);
            System.arraycopy(other.said, 0, said, 0, MOST_CELLS);
            for (int c = 0; c < MOST_CELLS; c++) {
                houses[c] = other.houses[c];
            }
            for (int k = 0; k < MOST_DRAWERS; k++) {
                drawers[k] = other.drawers[k];
            }
            System.arraycopy(other.wishCounts, 0, wishCounts, 0, MOST_DRAWERS);
            System.arraycopy(other.wishCells, 0, wishCells, 0, MOST_DRAWERS * MOST_WISHES);
            System.arraycopy(other.wishHeights, 0, wishHeights, 0, MOST_DRAWERS * MOST_WISHES);
            System.arraycopy(other.wishWorths, 0, wishWorths, 0, MOST_DRAWERS * MOST_WISHES);
        }

        boolean isCell(int c) {
            return c >= 0 && c < cells && c < MOST_CELLS;
        }

        Drawer drawerAt(int k) {
            return k >= 0 && k < drawerCount && k < MOST_DRAWERS ? drawers[k] : null;
        }

        boolean addDrawer(int kind, int figure) {
            if (kind < KIND_DRAWER || kind > KIND_COPY || drawerCount >= MOST_DRAWERS) {
                return false;
            }
            drawers[drawerCount] = new Drawer(drawerCount, kind, figure);
            wishCounts[drawerCount] = 0;
            drawerCount++;
            return true;
        }

        boolean addWish(int k, int cell, int height, int worth) {
            if (drawerAt(k) == null || !isCell(cell) || worth < 1 || worth > MOST_WORTH) {
                return false;
            }
            if (wishCounts[k] >= MOST_WISHES) {
                return false;
            }
            int place = k * MOST_WISHES + wishCounts[k];
            wishCells[place] = cell;
            wishHeights[place] = height;
            wishWorths[place] = worth;
            wishCounts[k]++;
            return true;
        }

        // ---- the map

        int told(int c) {
            return said[c] == UNSAID ? NONE : said[c];
        }

        int wanted(int c) {
            return said[c] == UNSAID ? heights[c] : said[c];
        }

        int firstUnlike() {
            for (int c = 0; c < cells; c++) {
                if (wanted(c) != heights[c]) {
                    return c;
                }
            }
            return NONE;
        }

        int offTheMap() {
            int off = 0;
            for (int c = 0; c < cells; c++) {
                off += Math.abs(heights[c] - wanted(c));
            }
            return off;
        }

        int offFrom(int[] ground) {
            int off = 0;
            for (int c = 0; c < cells; c++) {
                off += Math.abs(heights[c] - ground[c]);
            }
            return off;
        }

        // ---- what there is of all

        int saidCells() {
            int n = 0;
            for (int c = 0; c < cells; c++) {
                n += said[c] == UNSAID ? 0 : 1;
            }
            return n;
        }

        int houseCount() {
            int n = 0;
            for (int c = 0; c < cells; c++) {
                n += houses[c] ? 1 : 0;
            }
            return n;
        }

        int allHeights() {
            int sum = 0;
            for (int c = 0; c < cells; c++) {
                sum += heights[c];
            }
            return sum;
        }

        int allWishes() {
            int n = 0;
            for (int k = 0; k < drawerCount; k++) {
                n += wishCounts[k];
            }
            return n;
        }

        // ---- water

        /** Writes the way down, and how long it is: every step is lower, so at most as many as there are heights. */
        int followWater() {
            int at = spring;
            int length = 0;
            while (length < HEIGHTS) {
                way[length] = at;
                length++;
                int lowest = at;
                for (int side = at * SIDES; side < at * SIDES + SIDES; side++) {
                    int next = beside[side];
                    if (next >= 0 && heights[next] < heights[lowest]) {
                        lowest = next;
                    }
                }
                if (lowest == at) {
                    break;
                }
                at = lowest;
            }
            return length;
        }

        int standsAt(int length) {
            return length >= 1 && length <= HEIGHTS ? way[length - 1] : spring;
        }

        boolean isOnWay(int c) {
            int length = followWater();
            for (int i = 0; i < length; i++) {
                if (way[i] == c) {
                    return true;
                }
            }
            return false;
        }

        boolean isLost() {
            return isRim(standsAt(followWater()));
        }

        boolean isRim(int c) {
            int side = c * SIDES;
            return beside[side] < 0 || beside[side + 1] < 0 || beside[side + 2] < 0 || beside[side + 3] < 0;
        }

        // ---- hauls

        int near(int a, int b) {
            return nears[a * MOST_CELLS + b];
        }

        boolean canGive(int c) {
            return !houses[c] && heights[c] > 0;
        }

        boolean canTake(int c) {
            return !houses[c] && heights[c] < TOP;
        }

        boolean canHaul(int from, int to) {
            return isCell(from) && isCell(to) && from != to && canGive(from) && canTake(to);
        }

        int haulHours(int from, int to) {
            int climb = heights[to] - heights[from];
            return 2 * near(from, to) + (climb > 0 ? climb : 0);
        }

        void shift(int from, int to) {
            heights[from]--;
            heights[to]++;
        }

        // ---- worth

        int wishWorth(int place, int height) {
            int off = Math.abs(height - wishHeights[place]);
            return Math.max(0, wishWorths[place] - WORTH_LOST_A_STEP * off);
        }

        int worthTo(int k, int[] ground) {
            int sum = 0;
            for (int w = 0; w < wishCounts[k]; w++) {
                int place = k * MOST_WISHES + w;
                sum += wishWorth(place, ground[wishCells[place]]);
            }
            return sum;
        }

        int worthToAll(int[] ground) {
            int sum = 0;
            for (int k = 0; k < drawerCount; k++) {
                sum += worthTo(k, ground);
            }
            return sum;
        }
    }

    /** A drawer never changes; its wishes stand in the land, so that shelves may hold it through a restored image. */
    private static final class Drawer {
        private static final int PLAIN_COST = 5;
        final int number;
        final int kind;
        final int figure;

        Drawer(int number, int kind, int figure) {
            this.number = number;
            this.kind = kind;
            this.figure = figure;
        }

        int cost() {
            int own = PLAIN_COST + figure;
            int small = own - 2;
            int told = PLAIN_COST - 1;
            switch (kind) {
                case KIND_OWN:
                    return own;
                case KIND_ALL:
                    return 3 * own;
                case KIND_SMALL:
                    return small;
                case KIND_AHEAD:
                    return own + 20;
                case KIND_TOLD:
                    return told;
                case KIND_BLOT:
                    return told * figure;
                case KIND_COPY:
                    return small / 2;
                default:
                    return PLAIN_COST;
            }
        }

        /** Which exception it is tells the sorts of failures apart. */
        void fail() {
            if (kind == KIND_TOLD || figure == 0) {
                return;
            }
            if (kind == KIND_BLOT) {
                throw new IllegalArgumentException("a blot");
            }
            if (kind == KIND_AHEAD) {
                throw new UnsupportedOperationException("one that looks ahead");
            }
            throw new IllegalStateException("a drawer");
        }
    }

    /** A place for nothing, a drawer, or a row; the row's elements are made once and used again. */
    private static final class Shelf {
        Drawer drawer = null;
        boolean isRow = false;
        int sort = BYTES;
        int size = 0;
        final int[] elements = new int[MOST_ELEMENTS];

        void holdNothing() {
            drawer = null;
            isRow = false;
            size = 0;
        }

        void holdDrawer(Drawer held) {
            holdNothing();
            drawer = held;
        }

        void holdRow(int newSort, int n) {
            drawer = null;
            isRow = true;
            sort = newSort;
            size = n;
            Arrays.fill(elements, 0);
        }

        boolean isEmpty() {
            return !isRow && drawer == null;
        }

        boolean holdsRowOf(int wanted) {
            return isRow && sort == wanted;
        }

        int refusalAsRow() {
            if (isEmpty()) {
                return NOTHING_HELD;
            }
            return isRow ? 0 : OTHER_KIND;
        }

        int refusalAsBytes() {
            if (isEmpty()) {
                return NOTHING_HELD;
            }
            return holdsRowOf(BYTES) ? 0 : OTHER_KIND;
        }

        boolean hasPlace(int i) {
            return i >= 0 && i < size && i < MOST_ELEMENTS;
        }

        /** Taking n off the size, not adding it to i, which may be too great to be added to. */
        boolean hasPlaces(int i, int n) {
            return i >= 0 && n >= 0 && n <= size && i <= size - n;
        }

        int at(int i) {
            return hasPlace(i) ? elements[i] : 0;
        }

        void write(int i, int v) {
            if (!hasPlace(i)) {
                return;
            }
            if (sort == BYTES) {
                elements[i] = (byte) v;
            } else if (sort == SHORTS) {
                elements[i] = (short) v;
            } else {
                elements[i] = v;
            }
        }

        int leastNumber() {
            if (sort == BYTES) {
                return LEAST_BYTE;
            }
            return sort == SHORTS ? LEAST_SHORT : LEAST_INT;
        }

        boolean isMapOf(int cells) {
            if (size != cells) {
                return false;
            }
            for (int c = 0; c < size; c++) {
                int told = at(c);
                if ((told < 0 || told > TOP) && told != UNSAID_IN_ROWS) {
                    return false;
                }
            }
            return true;
        }

        int heightAt(int c) {
            int told = at(c);
            return told == UNSAID_IN_ROWS ? UNSAID : told;
        }
    }

    /** A land's text, read twice: its form wholly first, since a fault of form goes ahead of the others. */
    private static final class Text {
        private static final int FAULT_OF_FORM = -1000;
        private static final int FAULT_OF_SENSE = -2000;
        private static final int MOST_VALUES = 4;
        private static final int MOST_DIGITS = 3;
        private int[] bytes = new int[0];
        private int size = 0;
        private int at = 0;
        private int found = 0;
        private final int[] values = new int[MOST_VALUES];

        void open(int[] elements, int n) {
            bytes = elements;
            size = Math.min(n, elements.length);
        }

        int faultOfForm() {
            at = 0;
            // One statement at least, so that an empty text ends too early.
            for (int n = 0; n == 0 || (n < size && at < size); n++) {
                if (!readStatement()) {
                    return FAULT_OF_FORM - at;
                }
            }
            return 0;
        }

        /** How many statements came, or the fault of the first that cannot be done. */
        int writeTo(Land land) {
            at = 0;
            int done = 0;
            while (at < size && done < size) {
                int start = at;
                if (!readStatement() || !act(land, bytes[start])) {
                    return FAULT_OF_SENSE - start;
                }
                done++;
            }
            return done;
        }

        /** D is a digit, N a number of one digit to three, all else stands for itself. */
        private static String formOf(int letter) {
            switch (letter) {
                case 's':
                case 'd':
                    return "DD;";
                case 'g':
                    return "N D;";
                case 'b':
                case 'q':
                case 't':
                    return "N;";
                case 'l':
                    return "D;";
                case 'w':
                    return "DN DN;";
                default:
                    return "";
            }
        }

        /** Where it cannot go on it stays at the byte that is wrong, or at the end. */
        private boolean readStatement() {
            found = 0;
            String form = at < size ? formOf(bytes[at]) : "";
            if (form.isEmpty()) {
                return false;
            }
            at++;
            for (int i = 0; i < form.length(); i++) {
                char sign = form.charAt(i);
                boolean read;
                if (sign == 'D') {
                    read = readNumber(1);
                } else if (sign == 'N') {
                    read = readNumber(MOST_DIGITS);
                } else {
                    read = readSign(sign);
                }
                if (!read) {
                    return false;
                }
            }
            return true;
        }

        private boolean readSign(char sign) {
            if (at >= size || bytes[at] != sign) {
                return false;
            }
            at++;
            return true;
        }

        private boolean readNumber(int mostDigits) {
            if (!isDigit() || found >= MOST_VALUES) {
                return false;
            }
            int value = 0;
            for (int digits = 0; digits < mostDigits && isDigit(); digits++) {
                value = value * 10 + bytes[at] - '0';
                at++;
                // No digit may follow a 0 that stands first.
                if (value == 0) {
                    break;
                }
            }
            values[found] = value;
            found++;
            return true;
        }

        private boolean isDigit() {
            return at < size && bytes[at] >= '0' && bytes[at] <= '9';
        }

        private boolean act(Land land, int letter) {
            switch (letter) {
                case 's':
                    return startAnew(land, values[0], values[1]);
                case 'g':
                    return raise(land, values[0], values[1]);
                case 'b':
                    return build(land, values[0]);
                case 'q':
                    return spring(land, values[0]);
                case 't':
                    land.hours = values[0];
                    return true;
                case 'l':
                    return rule(land, values[0]);
                case 'd':
                    return land.addDrawer(values[0], values[1]);
                case 'w':
                    return land.addWish(values[0], values[1], values[2], values[3]);
                default:
                    return false;
            }
        }

        private static boolean startAnew(Land land, int rows, int columns) {
            if (land.drawerCount > 0 || !isSide(rows) || !isSide(columns)) {
                return false;
            }
            land.renew(rows, columns);
            return true;
        }

        private static boolean isSide(int n) {
            return n >= LEAST_SIDE && n <= MOST_SIDE;
        }

        private static boolean raise(Land land, int cell, int height) {
            if (!land.isCell(cell)) {
                return false;
            }
            land.heights[cell] = height;
            return true;
        }

        private static boolean build(Land land, int cell) {
            if (!land.isCell(cell) || land.houses[cell]) {
                return false;
            }
            land.houses[cell] = true;
            return true;
        }

        private static boolean spring(Land land, int cell) {
            if (!land.isCell(cell)) {
                return false;
            }
            land.spring = cell;
            return true;
        }

        private static boolean rule(Land land, int law) {
            if (law > MOST_LAW) {
                return false;
            }
            land.law = law;
            return true;
        }
    }

    /** Where drawers draw: it weighs hauls by tables of what each height of each cell is worth. */
    private static final class Desk {
        private static final int NEVER = -1000000;
        private final int[] worths = new int[MOST_CELLS * HEIGHTS];
        private final int[] nextWorths = new int[MOST_CELLS * HEIGHTS];
        private final int[] lowered = new int[MOST_CELLS];
        private final int[] raised = new int[MOST_CELLS];
        private int from = -1;
        private int to = -1;

        /** Writes the whole map that a drawer draws on a land. */
        void sketch(Land land, int who, int[] plan) {
            System.arraycopy(land.heights, 0, plan, 0, MOST_CELLS);
            Drawer drawer = land.drawerAt(who);
            if (drawer == null) {
                return;
            }
            switch (drawer.kind) {
                case KIND_OWN:
                    tabulate(land, who, worths);
                    pickHaul(land, worths, MOST_NEAR, false);
                    drawHaul(plan);
                    break;
                case KIND_ALL:
                    tabulateAll(land);
                    pickHaul(land, worths, MOST_NEAR, false);
                    drawHaul(plan);
                    break;
                case KIND_SMALL:
                    tabulate(land, who, worths);
                    pickHaul(land, worths, MOST_NEAR, true);
                    drawHaul(plan);
                    break;
                case KIND_COPY:
                    tabulate(land, who, worths);
                    pickHaul(land, worths, drawer.figure, true);
                    drawHaul(plan);
                    break;
                case KIND_AHEAD:
                    pickAhead(land, who);
                    drawHaul(plan);
                    break;
                case KIND_TOLD:
                    drawTold(land, plan);
                    break;
                case KIND_BLOT:
                    drawTold(land, plan);
                    smudge(land, drawer.figure, plan);
                    break;
                default:
                    break;
            }
        }

        private void drawHaul(int[] plan) {
            if (from >= 0 && to >= 0) {
                plan[from]--;
                plan[to]++;
            }
        }

        private static void drawTold(Land land, int[] plan) {
            for (int c = 0; c < land.cells; c++) {
                plan[c] = land.wanted(c);
            }
        }

        private static void smudge(Land land, int cell, int[] plan) {
            if (land.isCell(cell) && plan[cell] > 0) {
                plan[cell]--;
            }
        }

        private static void tabulate(Land land, int who, int[] table) {
            Arrays.fill(table, 0);
            addWishes(land, who, table);
        }

        private void tabulateAll(Land land) {
            Arrays.fill(worths, 0);
            for (int k = 0; k < land.drawerCount; k++) {
                addWishes(land, k, worths);
            }
        }

        private static void addWishes(Land land, int who, int[] table) {
            for (int w = 0; w < land.wishCounts[who]; w++) {
                int place = who * MOST_WISHES + w;
                int first = land.wishCells[place] * HEIGHTS;
                for (int h = 0; h < HEIGHTS; h++) {
                    table[first + h] += land.wishWorth(place, h);
                }
            }
        }

        /**
         * Of the land as it is and those by one haul the one worth most by a table; charged ones pay
         * the haul's hours. None (from below 0) is the land as it is.
         */
        private void pickHaul(Land land, int[] table, int reach, boolean charged) {
            from = -1;
            to = -1;
            int best = 0;
            int mostRaised = weighCells(land, table);
            for (int a = 0; a < land.cells; a++) {
                // Hours only take away, so this much at most can come of cell a.
                if (lowered[a] + mostRaised <= best) {
                    continue;
                }
                for (int b = 0; b < land.cells; b++) {
                    if (a == b || raised[b] == NEVER || land.near(a, b) > reach) {
                        continue;
                    }
                    int gain = lowered[a] + raised[b] - (charged ? land.haulHours(a, b) : 0);
                    if (gain > best) {
                        best = gain;
                        from = a;
                        to = b;
                    }
                }
            }
        }

        /** What it brings to lower and to raise each cell by a step; the most that raising one brings. */
        private int weighCells(Land land, int[] table) {
            int most = NEVER;
            for (int c = 0; c < land.cells; c++) {
                int now = c * HEIGHTS + land.heights[c];
                lowered[c] = land.canGive(c) ? table[now - 1] - table[now] : NEVER;
                raised[c] = land.canTake(c) ? table[now + 1] - table[now] : NEVER;
                most = raised[c] > most ? raised[c] : most;
            }
            return most;
        }

        private void pickAhead(Land land, int who) {
            int next = who + 1 < land.drawerCount ? who + 1 : 0;
            tabulate(land, who, worths);
            tabulate(land, next, nextWorths);
            int best = worthThatComes(land);
            int bestFrom = -1;
            int bestTo = -1;
            for (int a = 0; a < land.cells; a++) {
                for (int b = 0; b < land.cells; b++) {
                    if (!land.canHaul(a, b)) {
                        continue;
                    }
                    land.shift(a, b);
                    int worth = worthThatComes(land);
                    land.shift(b, a);
                    if (worth > best) {
                        best = worth;
                        bestFrom = a;
                        bestTo = b;
                    }
                }
            }
            from = bestFrom;
            to = bestTo;
        }

        /** What a land is worth to the one who looks ahead, once the next one's haul on it is dug. */
        private int worthThatComes(Land land) {
            pickHaul(land, nextWorths, MOST_NEAR, false);
            if (from < 0 || to < 0) {
                return worthByTable(land);
            }
            boolean wasLost = land.law == 2 && land.isLost();
            boolean paid = 2 * land.near(from, to) <= land.hours;
            land.shift(from, to);
            boolean dug = paid && (!wasLost || land.isLost());
            if (!dug) {
                land.shift(to, from);
            }
            int worth = worthByTable(land);
            if (dug) {
                land.shift(to, from);
            }
            return worth;
        }

        private int worthByTable(Land land) {
            int sum = 0;
            for (int c = 0; c < land.cells; c++) {
                sum += worths[c * HEIGHTS + land.heights[c]];
            }
            return sum;
        }
    }

    /** The least hours, and how a land is dug by the map. */
    private static final class Digging {
        private static final int FAR = 1000000;
        private static final int MOST_TURNS = 1000;
        int steps = 0;
        int left = 0;
        private final int[] excess = new int[MOST_CELLS];
        private int highs = 0;
        private int lows = 0;
        private final int[] high = new int[MOST_CELLS];
        private final int[] low = new int[MOST_CELLS];
        private final int[] surplus = new int[MOST_CELLS];
        private final int[] lack = new int[MOST_CELLS];
        private final int[][] moved = new int[MOST_CELLS][MOST_CELLS];
        private final int[] highFar = new int[MOST_CELLS];
        private final int[] lowFar = new int[MOST_CELLS];
        private final int[] highBack = new int[MOST_CELLS];
        private final int[] lowBack = new int[MOST_CELLS];

        /** Digs the land by the map, by its law. */
        void follow(Land land) {
            steps = 0;
            left = land.hours;
            if (land.law != 0) {
                digByPairs(land, land.law == 2 && land.isLost());
                return;
            }
            int least = leastHours(land, land.said);
            if (least >= 0 && least <= land.hours) {
                left = land.hours - least;
                digWholly(land);
            }
        }

        private void digWholly(Land land) {
            for (int c = 0; c < land.cells; c++) {
                steps += Math.max(0, excess[c]);
                land.heights[c] -= excess[c];
            }
        }

        /** Pairs only cease to be ones, and none comes anew: once through them in their order is enough. */
        private void digByPairs(Land land, boolean mustBeLost) {
            weighExcess(land, land.said);
            for (int near = 1; near <= MOST_NEAR; near++) {
                for (int a = 0; a < land.cells; a++) {
                    for (int b = 0; excess[a] > 0 && b < land.cells; b++) {
                        if (land.near(a, b) == near && !digPair(land, a, b, mustBeLost)) {
                            return;
                        }
                    }
                }
            }
        }

        /** False: the hours are out, and no pair behind this one needs fewer. */
        private boolean digPair(Land land, int a, int b, boolean mustBeLost) {
            if (land.houses[a] || land.houses[b]) {
                return true;
            }
            int spent = 2 * land.near(a, b);
            for (int step = 0; step < HEIGHTS && excess[a] > 0 && excess[b] < 0; step++) {
                if (left < spent) {
                    return false;
                }
                land.shift(a, b);
                if (mustBeLost && !land.isLost()) {
                    land.shift(b, a);
                    return true;
                }
                left -= spent;
                steps++;
                excess[a]--;
                excess[b]++;
            }
            return true;
        }

        private void weighExcess(Land land, int[] map) {
            for (int c = 0; c < land.cells; c++) {
                excess[c] = map[c] == UNSAID ? 0 : land.heights[c] - map[c];
            }
        }

        /** The least hours to make a land like a map, by ever again the shortest way from a high one to a low one. */
        int leastHours(Land land, int[] map) {
            weighExcess(land, map);
            if (!sortOut(land)) {
                return NONE;
            }
            int spent = 0;
            for (int turn = 0; turn < MOST_TURNS; turn++) {
                spreadAll(land);
                int end = nearestLow();
                if (end < 0) {
                    break;
                }
                spent += 2 * lowFar[end] * send(end);
            }
            return spent;
        }

        /** Lists high and low ones; false where no digging can make the land like the map. */
        private boolean sortOut(Land land) {
            highs = 0;
            lows = 0;
            int sum = 0;
            for (int c = 0; c < land.cells; c++) {
                int off = excess[c];
                if (off != 0 && land.houses[c]) {
                    return false;
                }
                sum += off;
                if (off > 0) {
                    high[highs] = c;
                    surplus[highs] = off;
                    highs++;
                } else if (off < 0) {
                    low[lows] = c;
                    lack[lows] = -off;
                    lows++;
                }
            }
            for (int i = 0; i < highs; i++) {
                Arrays.fill(moved[i], 0);
            }
            return sum == 0;
        }

        /** How far each is from those with a surplus; what has been moved may be taken back on the way. */
        private void spreadAll(Land land) {
            for (int i = 0; i < highs; i++) {
                highFar[i] = surplus[i] > 0 ? 0 : FAR;
                highBack[i] = -1;
            }
            for (int j = 0; j < lows; j++) {
                lowFar[j] = FAR;
                lowBack[j] = -1;
            }
            boolean nearer = true;
            for (int turn = 0; nearer && turn < MOST_TURNS; turn++) {
                nearer = spreadForth(land) && spreadBack(land);
            }
        }

        private boolean spreadForth(Land land) {
            boolean nearer = false;
            for (int i = 0; i < highs; i++) {
                for (int j = 0; highFar[i] < FAR && j < lows; j++) {
                    int far = highFar[i] + land.near(high[i], low[j]);
                    if (far < lowFar[j]) {
                        lowFar[j] = far;
                        lowBack[j] = i;
                        nearer = true;
                    }
                }
            }
            return nearer;
        }

        private boolean spreadBack(Land land) {
            boolean nearer = false;
            for (int j = 0; j < lows; j++) {
                for (int i = 0; lowFar[j] < FAR && i < highs; i++) {
                    int far = lowFar[j] - land.near(high[i], low[j]);
                    if (moved[i][j] > 0 && far < highFar[i]) {
                        highFar[i] = far;
                        highBack[i] = j;
                        nearer = true;
                    }
                }
            }
            return nearer;
        }

        private int nearestLow() {
            int found = -1;
            for (int j = 0; j < lows; j++) {
                if (lack[j] > 0 && lowFar[j] < FAR && (found < 0 || lowFar[j] < lowFar[found])) {
                    found = j;
                }
            }
            return found;
        }

        /** Sends as many steps as go along the way to a low one: how many. */
        private int send(int end) {
            int many = lack[end];
            int start = lowBack[end];
            for (int turn = 0; turn < MOST_CELLS && start >= 0 && highBack[start] >= 0; turn++) {
                int j = highBack[start];
                many = Math.min(many, moved[start][j]);
                start = lowBack[j];
            }
            if (start < 0) {
                return 0;
            }
            many = Math.min(many, surplus[start]);
            surplus[start] -= many;
            lack[end] -= many;
            int j = end;
            for (int turn = 0; turn < MOST_CELLS && j >= 0; turn++) {
                int i = lowBack[j];
                if (i < 0) {
                    break;
                }
                moved[i][j] += many;
                j = highBack[i];
                if (j >= 0) {
                    moved[i][j] -= many;
                }
            }
            return many;
        }
    }
}
