/**
 * Two pictures of an object, a former and a later one: what has changed between them beyond the light and the
 * noise, joined into spots and cracks, and how it grows by days.
 */
public final class PictureChange {
    public static final int NONE = -1;

    private static final int LEAST_SIDE = 4;
    private static final int GREATEST_SIDE = 24;
    private static final int GREATEST_VALUE = 255;
    private static final int GREATEST_SHIFT = 3;

    private final int width;
    private final int height;
    private final int[] formerValues;
    private final int[] laterValues;
    private final Shift registered;
    // A second shift, so that register() makes no objects for the many shifts that it looks at.
    private final Shift tried;
    private final Charts charts;
    // Weighed anew before each use, as every cell, chart and shift bears on it.
    private final Fraction light;
    private final Noise noise;
    private final Spots spots;
    private final Days days;
    private final Fraction slope;

    public PictureChange(int width, int height) {
        this.width = within(width, LEAST_SIDE, GREATEST_SIDE);
        this.height = within(height, LEAST_SIDE, GREATEST_SIDE);
        int cells = this.width * this.height;
        this.formerValues = new int[cells];
        this.laterValues = new int[cells];
        this.registered = new Shift();
        this.tried = new Shift();
        this.charts = new Charts();
        this.light = new Fraction();
        this.noise = new Noise(cells);
        this.spots = new Spots(this.width, this.height);
        this.days = new Days();
        this.slope = new Fraction();
    }

    public int cell(boolean later, int x, int y, int v) throws IndexOutOfBoundsException, IllegalArgumentException {
        needCell(x, y);
        needValue(v);
        int[] values = later ? laterValues : formerValues;
        int place = placeOf(x, y);
        int was = values[place];
        values[place] = v;
        return was;
    }

    public int register(int most) throws IllegalArgumentException {
        if (most < 0 || most > GREATEST_SHIFT) {
            throw new IllegalArgumentException("most is not 0 .. 3");
        }
        registered.moveTo(0, 0);
        compareAt(registered);
        for (int across = -most; across <= most; across++) {
            for (int down = -most; down <= most; down++) {
                tried.moveTo(across, down);
                compareAt(tried);
                if (tried.isBetterThan(registered)) {
                    registered.become(tried);
                }
            }
        }
        return registered.differences;
    }

    public int shift(int axis) throws IndexOutOfBoundsException {
        needHalf(axis);
        return axis == 0 ? registered.across : registered.down;
    }

    public boolean chart(int x, int y, boolean on) throws IndexOutOfBoundsException, IllegalStateException {
        needCell(x, y);
        int at = charts.find(x, y);
        boolean was = at != NONE;
        if (was == on) {
            return false;
        }
        if (!on) {
            charts.remove(at);
            return true;
        }
        if (charts.isFull()) {
            throw new IllegalStateException("there are twelve charts");
        }
        charts.add(x, y);
        return true;
    }

    public int gain(int part) throws IndexOutOfBoundsException {
        needHalf(part);
        weighLight();
        return (int) (part == 0 ? light.above : light.below);
    }

    public int repeat(int x, int y, int v) throws IndexOutOfBoundsException, IllegalArgumentException {
        needCell(x, y);
        needValue(v);
        int place = placeOf(x, y);
        noise.tell(place, v, formerValues[place]);
        return boundAt(x, y);
    }

    public int floor(int v) throws IllegalArgumentException {
        needValue(v);
        int was = noise.floor;
        noise.floor = v;
        return was;
    }

    public int bound(int x, int y) throws IndexOutOfBoundsException {
        needCell(x, y);
        return boundAt(x, y);
    }

    public int change(int x, int y) throws IndexOutOfBoundsException {
        needCell(x, y);
        weighLight();
        return changeAt(x, y);
    }

    public int run() {
        weighLight();
        spots.clear();
        for (int y = 0; y < height; y++) {
            for (int x = 0; x < width; x++) {
                int change = changeAt(x, y);
                if (change > boundAt(x, y)) {
                    spots.mark(x, y, change);
                }
            }
        }
        spots.join();
        return spots.found;
    }

    public int spot(int k, int what) throws IndexOutOfBoundsException {
        if (k < 0 || k >= spots.found) {
            throw new IndexOutOfBoundsException("there is no such spot");
        }
        if (what < 0 || what >= Spots.FACTS) {
            throw new IndexOutOfBoundsException("there is no such what");
        }
        return spots.factOf(k, what);
    }

    public int map(int x, int y) throws IndexOutOfBoundsException {
        needCell(x, y);
        return spots.spotAt(x, y);
    }

    public int alarm(int after, int level, int length) throws IndexOutOfBoundsException {
        if (after < NONE || after >= spots.found) {
            throw new IndexOutOfBoundsException("there is no such spot");
        }
        for (int k = after + 1; k < spots.found; k++) {
            if (spots.isAlarming(k, level, length)) {
                return k;
            }
        }
        return NONE;
    }

    public int falseOnes() {
        return noise.beyondFloor;
    }

    public int day(int day) throws IllegalArgumentException, IllegalStateException {
        if (!days.canFollow(day)) {
            throw new IllegalArgumentException("the day is not 0 .. 10000 or not above the latest one");
        }
        if (days.isFull()) {
            throw new IllegalStateException("there are thirty days");
        }
        days.keep(day, spots.marked);
        return days.kept;
    }

    public long growth(int part) throws IndexOutOfBoundsException {
        needHalf(part);
        days.fit(slope);
        return part == 0 ? slope.above : slope.below;
    }

    public int count(int what) throws IndexOutOfBoundsException {
        switch (what) {
            case 0:
                return width;
            case 1:
                return height;
            case 2:
                return charts.held;
            case 3:
                return spots.found;
            case 4:
                return spots.marked;
            case 5:
                return days.kept;
            case 6:
                return noise.told;
            default:
                throw new IndexOutOfBoundsException("there is no such what");
        }
    }

    private static int within(int v, int least, int greatest) {
        return Math.max(least, Math.min(greatest, v));
    }

    private boolean hasCell(int x, int y) {
        return x >= 0 && x < width && y >= 0 && y < height;
    }

    private int placeOf(int x, int y) {
        return y * width + x;
    }

    private void needCell(int x, int y) {
        if (!hasCell(x, y)) {
            throw new IndexOutOfBoundsException("there is no such cell");
        }
    }

    private static void needValue(int v) {
        if (v < 0 || v > GREATEST_VALUE) {
            throw new IllegalArgumentException("the value is not 0 .. 255");
        }
    }

    private static void needHalf(int which) {
        if (which != 0 && which != 1) {
            throw new IndexOutOfBoundsException("it is neither 0 nor 1");
        }
    }

    /** Sums up the differences at a shift. */
    private void compareAt(Shift shift) {
        for (int y = 0; y < height; y++) {
            for (int x = 0; x < width; x++) {
                int laterX = x + shift.across;
                int laterY = y + shift.down;
                if (hasCell(laterX, laterY)) {
                    shift.add(Math.abs(formerValues[placeOf(x, y)] - laterValues[placeOf(laterX, laterY)]));
                }
            }
        }
    }

    /** Sets the light to the gain as it is now. */
    private void weighLight() {
        long products = 0;
        long squares = 0;
        for (int k = 0; k < charts.held; k++) {
            int x = charts.xs[k];
            int y = charts.ys[k];
            int laterX = x + registered.across;
            int laterY = y + registered.down;
            if (hasCell(x, y) && hasCell(laterX, laterY)) {
                int laterValue = laterValues[placeOf(laterX, laterY)];
                products += formerValues[placeOf(x, y)] * laterValue;
                squares += laterValue * laterValue;
            }
        }
        if (products == 0 || squares == 0) {
            light.become(1, 1);
        } else {
            light.become(products, squares);
        }
    }

    /** A cell's change by the light as it was last weighed. */
    private int changeAt(int x, int y) {
        int laterX = x + registered.across;
        int laterY = y + registered.down;
        if (!hasCell(laterX, laterY)) {
            return 0;
        }
        int evened = light.timesRounded(laterValues[placeOf(laterX, laterY)]);
        return Math.abs(formerValues[placeOf(x, y)] - evened);
    }

    private int boundAt(int x, int y) {
        int place = placeOf(x, y);
        return noise.boundOf(place, formerValues[place]);
    }

    /** A shift, with the differences of the cells that lie on one there. */
    private static final class Shift {
        private int across;
        private int down;
        private int differences;
        private int cells;

        void moveTo(int newAcross, int newDown) {
            across = newAcross;
            down = newDown;
            differences = 0;
            cells = 0;
        }

        void add(int difference) {
            differences += difference;
            cells++;
        }

        void become(Shift other) {
            across = other.across;
            down = other.down;
            differences = other.differences;
            cells = other.cells;
        }

        boolean isBetterThan(Shift other) {
            // Crosswise products compare the two misses without a division that would round them.
            long own = (long) differences * other.cells;
            long others = (long) other.differences * cells;
            if (own != others) {
                return own < others;
            }
            if (together() != other.together()) {
                return together() < other.together();
            }
            if (across != other.across) {
                return across < other.across;
            }
            return down < other.down;
        }

        private int together() {
            return Math.abs(across) + Math.abs(down);
        }
    }

    /** Cells that should be alike in both pictures. */
    private static final class Charts {
        private static final int MOST = 12;

        private final int[] xs = new int[MOST];
        private final int[] ys = new int[MOST];
        private int held;

        boolean isFull() {
            return held >= MOST;
        }

        int find(int x, int y) {
            for (int k = 0; k < held; k++) {
                if (xs[k] == x && ys[k] == y) {
                    return k;
                }
            }
            return NONE;
        }

        void add(int x, int y) {
            if (held < MOST) {
                xs[held] = x;
                ys[held] = y;
                held++;
            }
        }

        /** The last one takes the place of the one that goes, as the order of charts bears on nothing. */
        void remove(int at) {
            if (at >= 0 && at < held) {
                held--;
                xs[at] = xs[held];
                ys[at] = ys[held];
            }
        }
    }

    /** A fraction that cannot be lessened; what stands below is always above 0. */
    private static final class Fraction {
        // Euclid's way ends within 92 steps for any two longs.
        private static final int MOST_STEPS = 100;

        private long above = 0;
        private long below = 1;

        /** Takes a fraction whose lower part is above 0. */
        void become(long newAbove, long newBelow) {
            long common = commonOf(Math.abs(newAbove), newBelow);
            if (common > 0) {
                above = newAbove / common;
                below = newBelow / common;
            }
        }

        /** A whole number times the fraction, neither of them below 0; halves go up. */
        int timesRounded(int v) {
            if (below <= 0) {
                return 0;
            }
            return (int) ((2 * above * v + below) / (2 * below));
        }

        private static long commonOf(long a, long b) {
            long one = a;
            long other = b;
            for (int step = 0; step < MOST_STEPS && other != 0; step++) {
                long rest = one % other;
                one = other;
                other = rest;
            }
            return one;
        }
    }

    /** What repeated pictures tell of the noise. */
    private static final class Noise {
        private static final int FIRST_FLOOR = 10;

        // The least and the greatest repeat of a cell are enough: one of them is the furthest from any value.
        private final int[] least;
        private final int[] greatest;
        private int floor = FIRST_FLOOR;
        private int told;
        private int beyondFloor;

        Noise(int cells) {
            least = new int[cells];
            greatest = new int[cells];
            for (int place = 0; place < cells; place++) {
                least[place] = NONE;
                greatest[place] = NONE;
            }
        }

        void tell(int place, int v, int formerValue) {
            least[place] = least[place] == NONE ? v : Math.min(least[place], v);
            greatest[place] = Math.max(greatest[place], v);
            told++;
            if (Math.abs(v - formerValue) > floor) {
                beyondFloor++;
            }
        }

        int boundOf(int place, int formerValue) {
            if (least[place] == NONE) {
                return floor;
            }
            int furthest = Math.max(Math.abs(least[place] - formerValue), Math.abs(greatest[place] - formerValue));
            return floor + furthest;
        }
    }

    /** Marks and spots as they were when they were looked for. */
    private static final class Spots {
        private static final int CELLS = 0;
        private static final int SUM = 1;
        private static final int LEFT = 2;
        private static final int TOP = 3;
        private static final int RIGHT = 4;
        private static final int BOTTOM = 5;
        private static final int LENGTH = 6;
        private static final int FACTS = 7;

        private static final int UNJOINED = -2;
        private static final int LEAST_CRACK = 3;

        private final int width;
        private final int height;
        private final int[] spotOf;
        private final int[] changes;
        // The cells of the spot that is being joined.
        private final int[] joinedX;
        private final int[] joinedY;
        private int joined;
        private final int[] facts;
        private int found;
        private int marked;

        Spots(int width, int height) {
            this.width = width;
            this.height = height;
            int cells = width * height;
            spotOf = new int[cells];
            changes = new int[cells];
            joinedX = new int[cells];
            joinedY = new int[cells];
            // No two spots lie side by side, so at most every other cell is one of its own.
            facts = new int[FACTS * ((cells + 1) / 2)];
            for (int place = 0; place < cells; place++) {
                spotOf[place] = NONE;
            }
        }

        void clear() {
            found = 0;
            marked = 0;
            for (int place = 0; place < spotOf.length; place++) {
                spotOf[place] = NONE;
            }
        }

        void mark(int x, int y, int change) {
            spotOf[y * width + x] = UNJOINED;
            changes[y * width + x] = change;
            marked++;
        }

        void join() {
            for (int y = 0; y < height; y++) {
                for (int x = 0; x < width; x++) {
                    if (spotAt(x, y) == UNJOINED && (found + 1) * FACTS <= facts.length) {
                        joinFrom(x, y);
                        describe();
                        found++;
                    }
                }
            }
        }

        /** The spot that a cell is of; NONE, also where there is no cell. */
        int spotAt(int x, int y) {
            return x >= 0 && x < width && y >= 0 && y < height ? spotOf[y * width + x] : NONE;
        }

        int factOf(int k, int what) {
            return facts[k * FACTS + what];
        }

        boolean isAlarming(int k, int level, int length) {
            int ownLength = factOf(k, LENGTH);
            return factOf(k, SUM) > level || (ownLength != NONE && ownLength >= length);
        }

        private void joinFrom(int x, int y) {
            joined = 0;
            take(x, y);
            for (int k = 0; k < joined && k < joinedX.length; k++) {
                take(joinedX[k], joinedY[k] - 1);
                take(joinedX[k] - 1, joinedY[k]);
                take(joinedX[k] + 1, joinedY[k]);
                take(joinedX[k], joinedY[k] + 1);
            }
        }

        private void take(int x, int y) {
            if (spotAt(x, y) == UNJOINED && joined < joinedX.length) {
                spotOf[y * width + x] = found;
                joinedX[joined] = x;
                joinedY[joined] = y;
                joined++;
            }
        }

        /** Writes down what is told of the spot that has just been joined. */
        private void describe() {
            int sum = 0;
            int left = width;
            int top = height;
            int right = 0;
            int bottom = 0;
            for (int k = 0; k < joined; k++) {
                int x = joinedX[k];
                int y = joinedY[k];
                sum += changes[y * width + x];
                left = Math.min(left, x);
                top = Math.min(top, y);
                right = Math.max(right, x);
                bottom = Math.max(bottom, y);
            }
            int first = found * FACTS;
            facts[first + CELLS] = joined;
            facts[first + SUM] = sum;
            facts[first + LEFT] = left;
            facts[first + TOP] = top;
            facts[first + RIGHT] = right;
            facts[first + BOTTOM] = bottom;
            facts[first + LENGTH] = isCrack() ? joined - 1 : NONE;
        }

        private boolean isCrack() {
            int ends = 0;
            for (int k = 0; k < joined; k++) {
                int neighbours = neighboursOf(joinedX[k], joinedY[k]);
                if (neighbours > 2) {
                    return false;
                }
                if (neighbours == 1) {
                    ends++;
                }
            }
            return joined >= LEAST_CRACK && ends == 2;
        }

        private int neighboursOf(int x, int y) {
            return ownAt(x, y - 1) + ownAt(x - 1, y) + ownAt(x + 1, y) + ownAt(x, y + 1);
        }

        private int ownAt(int x, int y) {
            return spotAt(x, y) == found ? 1 : 0;
        }
    }

    /** How many cells were marked, day by day. */
    private static final class Days {
        private static final int MOST = 30;
        private static final int LAST_DAY = 10000;

        private final int[] days = new int[MOST];
        private final int[] marks = new int[MOST];
        private int kept;

        boolean isFull() {
            return kept >= MOST;
        }

        boolean canFollow(int day) {
            int latest = kept > 0 && kept <= MOST ? days[kept - 1] : NONE;
            return day > latest && day <= LAST_DAY;
        }

        void keep(int day, int marked) {
            if (kept < MOST) {
                days[kept] = day;
                marks[kept] = marked;
                kept++;
            }
        }

        /** Sets the slope to that of the line with the least sum of squares. */
        void fit(Fraction slope) {
            long sumDays = 0;
            long sumMarks = 0;
            long sumProducts = 0;
            long sumSquares = 0;
            for (int k = 0; k < kept; k++) {
                long day = days[k];
                sumDays += day;
                sumMarks += marks[k];
                sumProducts += day * marks[k];
                sumSquares += day * day;
            }
            long spread = kept * sumSquares - sumDays * sumDays;
            if (kept < 2 || spread <= 0) {
                slope.become(0, 1);
            } else {
                slope.become(kept * sumProducts - sumDays * sumMarks, spread);
            }
        }
    }
}
