/** The document's part "Terms", sentence by sentence: the last input that is allowed and the first that is not. */
public final class TermsTest extends Checks {
    public static void main(String[] args) {
        fiveHundredAndTwelveCalls();
        sidesAreFourToTwentyFour();
        valuesAreZeroAtFirst();
        valuesGoToTheirEnds();
        shiftedCellsLieOnOneWhereThereIsOne();
        theMissIsDividedByHowMany();
        equalMissesOfUnlikeCounts();
        shiftsAreOfAtMostMost();
        ofEqualOnesTheLeastTogether();
        thenTheLesserAcross();
        thenTheLesserDown();
        atFirstTheShiftIsNone();
        chartsAreAtMostTwelve();
        theGainCannotBeLessened();
        theGainIsOfChartsThatLieOnACell();
        theGainIsOneIfASumIsZero();
        changesRoundHalvesUp();
        changesHaveNoSign();
        changesOfCellsOnNoneAreZero();
        repeatsGoToTheirEnds();
        theFloorGoesToItsEnds();
        theBoundIsByTheFormerValueNow();
        markedIsAboveTheBound();
        spotsAreJoinedSideBySide();
        spotsDoNotGoAroundTheEdges();
        spotsAreNumberedByTheirFirstCells();
        asManySpotsAsThereCanBe();
        oneSpotOfAllCells();
        cracksHaveThreeCells();
        cracksHaveAtMostTwoNeighboursACell();
        cracksHaveJustTwoEnds();
        theLongestCrack();
        allIsToldAsItWasWhenLookedFor();
        finish();
    }

    /** "An object is used for at most 512 calls after it has been made". */
    private static void fiveHundredAndTwelveCalls() {
        PictureChange told = afterRepeats(511);
        due("calls: the 512th, count", () -> told.count(6), 511);
        PictureChange far = afterRepeats(511);
        due("calls: the 512th, falseOnes", () -> far.falseOnes(), 511);
        PictureChange bound = afterRepeats(511);
        due("calls: the 512th, repeat", () -> bound.repeat(3, 3, 1), 265);
        PictureChange seen = new PictureChange(24, 24);
        seen.cell(true, 23, 23, 11);
        for (int k = 0; k < 509; k++) {
            seen.run();
        }
        due("calls: the 511th, run", () -> seen.run(), 1);
        due("calls: the 512th, map", () -> seen.map(23, 23), 0);
        PictureChange registered = new PictureChange(24, 24);
        registered.cell(false, 23, 23, 9);
        for (int k = 0; k < 510; k++) {
            registered.register(3);
        }
        due("calls: the 512th, shift", () -> registered.shift(0), 0);
    }

    private static PictureChange afterRepeats(int repeats) {
        PictureChange p = new PictureChange(4, 4);
        for (int k = 0; k < repeats; k++) {
            p.repeat(3, 3, 255);
        }
        return p;
    }

    /** "WIDTH and HEIGHT 4 .. 24 (what is given below or above that counts as the least or the greatest)". */
    private static void sidesAreFourToTwentyFour() {
        int[] given = {LOWEST, -24, -1, 0, 1, 3, 4, 5, 23, 24, 25, 26, 1000, HIGHEST};
        int[] counts = {4, 4, 4, 4, 4, 4, 4, 5, 23, 24, 24, 24, 24, 24};
        for (int k = 0; k < given.length; k++) {
            dueSides(given[k], 9, counts[k], 9);
            dueSides(9, given[k], 9, counts[k]);
            dueSides(given[k], given[k], counts[k], counts[k]);
            dueSides(given[k], given[given.length - 1 - k], counts[k], counts[given.length - 1 - k]);
        }
    }

    private static void dueSides(int width, int height, int dueWidth, int dueHeight) {
        String name = "sides " + width + ", " + height + ": ";
        PictureChange p = new PictureChange(width, height);
        due(name + "width", () -> p.count(0), dueWidth);
        due(name + "height", () -> p.count(1), dueHeight);
        for (boolean later : new boolean[] {false, true}) {
            due(name + "the last cell", () -> p.cell(later, dueWidth - 1, dueHeight - 1, 1), 0);
            due(name + "right of it", () -> p.cell(later, dueWidth, dueHeight - 1, 1), INDEX);
            due(name + "below it", () -> p.cell(later, dueWidth - 1, dueHeight, 1), INDEX);
        }
        due(name + "the last cell's map", () -> p.map(dueWidth - 1, dueHeight - 1), NONE);
    }

    /** "each cell of the FORMER and the LATER one has a value 0 .. 255 (0 at first)". */
    private static void valuesAreZeroAtFirst() {
        PictureChange p = new PictureChange(16, 16);
        for (int place = 0; place < 256; place++) {
            int x = place % 16;
            int y = place / 16;
            due("at first, former " + x + ", " + y, () -> p.cell(false, x, y, 255), 0);
            due("at first, later " + x + ", " + y, () -> p.cell(true, x, y, 254), 0);
        }
    }

    /** "a value 0 .. 255". */
    private static void valuesGoToTheirEnds() {
        for (boolean later : new boolean[] {false, true}) {
            PictureChange p = new PictureChange(4, 4);
            due("values: 255", () -> p.cell(later, 1, 2, 255), 0);
            due("values: 256", () -> p.cell(later, 1, 2, 256), ARGUMENT);
            due("values: 0", () -> p.cell(later, 1, 2, 0), 255);
            due("values: -1", () -> p.cell(later, 1, 2, -1), ARGUMENT);
            due("values: 1", () -> p.cell(later, 1, 2, 1), 0);
            due("values: 254", () -> p.cell(later, 1, 2, 254), 1);
            due("values: the other picture", () -> p.cell(!later, 1, 2, 7), 0);
        }
    }

    /** "cell x, y of the former lies on cell x + across, y + down of the later one, where there is one". */
    private static void shiftedCellsLieOnOneWhereThereIsOne() {
        for (int across = -3; across <= 3; across++) {
            for (int down = -3; down <= 3; down++) {
                dueShifted(8, 7, across, down);
            }
        }
    }

    private static void dueShifted(int width, int height, int across, int down) {
        String name = "shifted by " + across + ", " + down + ": ";
        PictureChange p = textured(width, height, across, down);
        due(name + "sum", () -> p.register(3), 0);
        due(name + "across", () -> p.shift(0), across);
        due(name + "down", () -> p.shift(1), down);
        // A later picture that is nowhere like the former one tells which cells have a change at all.
        for (int x = 0; x < width; x++) {
            int y = Math.max(0, -down);
            int atX = x;
            boolean lies = x + across >= 0 && x + across < width;
            if (lies) {
                p.cell(true, x + across, y + down, texture(x, y) + 5);
            }
            due(name + "column " + x, () -> p.change(atX, y), lies ? 5 : 0);
        }
        for (int y = 0; y < height; y++) {
            int x = Math.min(width - 1, width - 1 - across);
            int atY = y;
            boolean lies = y + down >= 0 && y + down < height;
            if (lies) {
                p.cell(true, x + across, y + down, texture(x, y) + 7);
            }
            due(name + "row " + y, () -> p.change(x, atY), lies ? 7 : 0);
        }
    }

    /** "the sum of the differences (without sign) of all cells that lie on one, divided by how many". */
    private static void theMissIsDividedByHowMany() {
        // At no shift it is 17 / 16, one column to the left 12 / 12: less, though 1 to the whole number in both.
        PictureChange lesser = allOnes();
        lesser.cell(true, 3, 0, 2);
        due("miss: 12 / 12 before 17 / 16", () -> lesser.register(1), 12);
        due("miss: 12 / 12 before 17 / 16, across", () -> lesser.shift(0), -1);
        due("miss: 12 / 12 before 17 / 16, down", () -> lesser.shift(1), 0);

        // Corners of 0: 12 / 16 is less than 10 / 12 and 8 / 9, though their sums are less.
        PictureChange whole = allOnes();
        for (int[] corner : new int[][] {{0, 0}, {3, 0}, {0, 3}, {3, 3}}) {
            whole.cell(true, corner[0], corner[1], 0);
        }
        due("miss: 12 / 16 before 10 / 12 and 8 / 9", () -> whole.register(1), 12);

        // One corner of 0: 8 / 9 is less than 11 / 12 and 15 / 16.
        PictureChange edge = allOnes();
        edge.cell(true, 3, 3, 0);
        due("miss: 8 / 9 before 11 / 12", () -> edge.register(1), 8);
        due("miss: 8 / 9 before 11 / 12, across", () -> edge.shift(0), 1);
        due("miss: 8 / 9 before 11 / 12, down", () -> edge.shift(1), 1);

        // Differences of both signs do not make each other good.
        PictureChange signs = new PictureChange(4, 4);
        signs.cell(false, 0, 0, 30);
        signs.cell(true, 1, 0, 30);
        signs.cell(false, 3, 3, 30);
        signs.cell(true, 2, 3, 30);
        due("miss: without sign", () -> signs.register(0), 120);
    }

    /** A new object of 4 by 4 cells whose later ones are all 1. */
    private static PictureChange allOnes() {
        PictureChange p = new PictureChange(4, 4);
        for (int place = 0; place < 16; place++) {
            p.cell(true, place % 4, place / 4, 1);
        }
        return p;
    }

    /** "with the least miss, of equal ones": 16 / 16 is as much as 12 / 12 or 1 / 1. */
    private static void equalMissesOfUnlikeCounts() {
        PictureChange p = allOnes();
        for (int most = 0; most <= 3; most++) {
            int asked = most;
            due("equal misses, most " + most, () -> p.register(asked), 16);
            due("equal misses, across", () -> p.shift(0), 0);
            due("equal misses, down", () -> p.shift(1), 0);
        }
    }

    /** "of all shifts of at most MOST (0 .. 3) across and down". */
    private static void shiftsAreOfAtMostMost() {
        for (int across = -3; across <= 3; across++) {
            for (int down = -3; down <= 3; down++) {
                PictureChange p = textured(8, 8, across, down);
                for (int most = 3; most >= 0; most--) {
                    dueWithin(most, across, down, p);
                }
            }
        }
        PictureChange p = new PictureChange(4, 4);
        due("most -1", () -> p.register(-1), ARGUMENT);
        due("most 4", () -> p.register(4), ARGUMENT);
    }

    private static void dueWithin(int most, int across, int down, PictureChange p) {
        String name = "most " + most + " for " + across + ", " + down;
        boolean reaches = Math.max(Math.abs(across), Math.abs(down)) <= most;
        due(name, () -> bit(p.register(most) == 0), bit(reaches));
        due(name + ", found", () -> bit(p.shift(0) == across && p.shift(1) == down), bit(reaches));
        due(name + ", across", () -> bit(Math.abs(p.shift(0)) <= most), 1);
        due(name + ", down", () -> bit(Math.abs(p.shift(1)) <= most), 1);
    }

    /** "of equal ones that with the least (across and down, each without sign) together". */
    private static void ofEqualOnesTheLeastTogether() {
        PictureChange alike = new PictureChange(4, 4);
        dueShift("all alike", alike, 3, 0, 0);

        // Only the shifts that leave both cells bare are without a miss: 1, 1 and 0, 2 are the nearest.
        PictureChange two = new PictureChange(5, 4);
        two.cell(true, 0, 1, 80);
        two.cell(true, 4, 0, 80);
        dueShift("1, 1 is as near as 0, 2", two, 3, 0, 2);
        dueShift("with most 1 only 1, 1", two, 1, 1, 1);

        // 0, 1 is nearer than -3, 1, though that is the lesser across.
        PictureChange corner = new PictureChange(4, 4);
        corner.cell(true, 0, 0, 80);
        dueShift("near before the lesser across", corner, 3, 0, 1);

        // Bare from 2 columns on: -2, 0 is nearer than -3, 0.
        PictureChange columns = new PictureChange(4, 4);
        for (int y = 0; y < 4; y++) {
            columns.cell(true, 3, y, 80);
            columns.cell(true, 2, y, 80);
        }
        dueShift("-2, 0 before -3, 0", columns, 3, -2, 0);

        // -1, -1 and 1, 1 are nearer together than any other without a miss; -3, -1 is the lesser across.
        PictureChange corners = new PictureChange(5, 5);
        corners.cell(true, 4, 0, 80);
        corners.cell(true, 0, 4, 80);
        dueShift("-1, -1", corners, 3, -1, -1);
    }

    /** "then the lesser across": the one to the left, whatever its sign. */
    private static void thenTheLesserAcross() {
        int[][] corners = {{0, 0, 0, 1}, {3, 0, -1, 0}, {0, 3, 0, -1}, {3, 3, -1, 0}};
        for (int[] corner : corners) {
            PictureChange p = new PictureChange(4, 4);
            p.cell(true, corner[0], corner[1], 80);
            dueShift("a corner at " + corner[0] + ", " + corner[1], p, 3, corner[2], corner[3]);
        }
        // Columns that repeat: one to the left and one to the right are alike.
        PictureChange columns = new PictureChange(4, 4);
        for (int y = 0; y < 4; y++) {
            columns.cell(false, 1, y, 80);
            columns.cell(false, 3, y, 80);
            columns.cell(true, 0, y, 80);
            columns.cell(true, 2, y, 80);
        }
        dueShift("-1 before 1", columns, 1, -1, 0);
        dueShift("-1 before 1, 3 and -3", columns, 3, -1, 0);
    }

    /** "then the lesser down": the one above, whatever its sign. */
    private static void thenTheLesserDown() {
        PictureChange rows = new PictureChange(4, 4);
        for (int x = 0; x < 4; x++) {
            rows.cell(false, x, 1, 80);
            rows.cell(false, x, 3, 80);
            rows.cell(true, x, 0, 80);
            rows.cell(true, x, 2, 80);
        }
        dueShift("up before down", rows, 1, 0, -1);
        dueShift("up before down, 3 and -3", rows, 3, 0, -1);

        // The same with a column that must be left bare: -1, -1 and -1, 1 are alike.
        for (int y = 0; y < 4; y++) {
            rows.cell(true, 3, y, 200);
        }
        dueShift("-1, -1 before -1, 1", rows, 3, -1, -1);
    }

    private static void dueShift(String name, PictureChange p, int most, int across, int down) {
        due("register, " + name, () -> p.register(most), 0);
        due("across, " + name, () -> p.shift(0), across);
        due("down, " + name, () -> p.shift(1), down);
    }

    /** "At first it is 0, 0." */
    private static void atFirstTheShiftIsNone() {
        PictureChange p = textured(8, 8, 2, -1);
        due("at first, across", () -> p.shift(0), 0);
        due("at first, down", () -> p.shift(1), 0);
        due("at first, change", () -> p.change(3, 3), Math.abs(texture(3, 3) - texture(1, 4)));
    }

    /** "CHARTS are cells of the former one, at most 12". */
    private static void chartsAreAtMostTwelve() {
        PictureChange p = new PictureChange(24, 24);
        for (int k = 0; k < 12; k++) {
            int x = 2 * k + 1;
            due("charts: " + (k + 1), () -> bit(p.chart(x, 23, true)), 1);
        }
        due("charts: 13", () -> bit(p.chart(0, 23, true)), STATE);
        due("charts: still 12", () -> p.count(2), 12);
        due("charts: the 13th is none", () -> bit(p.chart(0, 23, false)), 0);
        for (int k = 0; k < 12; k++) {
            int x = 2 * k + 1;
            due("charts: off, and room for one", () -> bit(p.chart(x, 23, false)), 1);
            due("charts: another in its place", () -> bit(p.chart(x, 0, true)), 1);
            due("charts: 13 again", () -> bit(p.chart(x, 23, true)), STATE);
        }
    }

    /** "The GAIN is a fraction that cannot be lessened: .. the sum of products .. by the sum of squares". */
    private static void theGainCannotBeLessened() {
        int[][] pairs = {
            {1, 1, 1, 1}, {255, 255, 1, 1}, {1, 255, 1, 255}, {255, 1, 255, 1}, {254, 255, 254, 255},
            {2, 4, 1, 2}, {4, 2, 2, 1}, {240, 180, 4, 3}, {251, 241, 251, 241},
        };
        for (int[] pair : pairs) {
            PictureChange p = new PictureChange(4, 4);
            p.chart(3, 3, true);
            p.cell(false, 3, 3, pair[0]);
            p.cell(true, 3, 3, pair[1]);
            dueGain("of " + pair[0] + " and " + pair[1], p, pair[2], pair[3]);
        }
        // Twelve of the brightest: 12 * 255 * 254 by 12 * 254 * 254, and one of them darker by one.
        PictureChange p = new PictureChange(4, 4);
        for (int k = 0; k < 12; k++) {
            p.chart(k % 4, k / 4, true);
            p.cell(false, k % 4, k / 4, 255);
            p.cell(true, k % 4, k / 4, 254);
        }
        dueGain("of twelve", p, 255, 254);
        // 12 * 255 * 254 - 255 = 776985 by 12 * 254 * 254 - 254 * 254 + 253 * 253 = 773685, both by 165
        p.cell(true, 0, 0, 253);
        dueGain("of twelve, one darker", p, 4709, 4689);
    }

    private static void dueGain(String name, PictureChange p, int above, int below) {
        due("gain " + name + ", above", () -> p.gain(0), above);
        due("gain " + name + ", below", () -> p.gain(1), below);
    }

    /** "over all charts that lie on a cell of the later one at the registered shift". */
    private static void theGainIsOfChartsThatLieOnACell() {
        int[][] shifts = {{3, 0}, {-3, 0}, {0, 3}, {0, -3}, {3, -3}, {1, 0}, {-1, 0}, {0, 1}, {0, -1}};
        for (int[] shift : shifts) {
            int across = shift[0];
            int down = shift[1];
            String name = "at " + across + ", " + down;
            // The first and the last cell that lie on one, and their neighbours that lie on none.
            int inX = across > 0 ? 7 - across : -across;
            int inY = down > 0 ? 7 - down : -down;
            int outX = inX + Integer.signum(across);
            int outY = inY + Integer.signum(down);
            PictureChange p = textured(8, 8, across, down);
            p.register(3);
            p.chart(outX, outY, true);
            p.cell(false, outX, outY, 200);
            dueGain("of none, " + name, p, 1, 1);
            p.chart(inX, inY, true);
            p.cell(false, inX, inY, 90);
            p.cell(true, inX + across, inY + down, 120);
            dueGain("of the one that lies on a cell, " + name, p, 3, 4);
            p.chart(inX, inY, false);
            dueGain("of none again, " + name, p, 1, 1);
        }
    }

    /** "1 / 1, if one of these is 0". */
    private static void theGainIsOneIfASumIsZero() {
        PictureChange p = new PictureChange(4, 4);
        p.cell(false, 2, 2, 3);
        p.cell(true, 2, 2, 5);
        dueGain("without charts", p, 1, 1);
        p.chart(1, 1, true);
        dueGain("of 0 and 0", p, 1, 1);
        p.cell(false, 1, 1, 255);
        dueGain("of 255 and 0", p, 1, 1);
        p.cell(false, 1, 1, 0);
        p.cell(true, 1, 1, 255);
        dueGain("of 0 and 255", p, 1, 1);
        due("change by a gain of 1 / 1", () -> p.change(1, 1), 255);
        p.cell(false, 1, 1, 1);
        dueGain("of 1 and 255", p, 1, 255);
        p.cell(true, 1, 1, 1);
        p.cell(false, 1, 1, 255);
        dueGain("of 255 and 1", p, 255, 1);
        // One chart of 0 beside another counts in the squares alone.
        p.chart(3, 1, true);
        p.cell(true, 3, 1, 2);
        dueGain("of 255, 1 and 0, 2", p, 51, 1);
        p.chart(1, 1, false);
        dueGain("of 0 and 2", p, 1, 1);
        p.chart(3, 1, false);
        dueGain("without charts any more", p, 1, 1);
    }

    /** "the later one times the gain (to the nearest whole number, halves up)". */
    private static void changesRoundHalvesUp() {
        // The chart's former and later value, the cell's later value, and what that comes to.
        int[][] cases = {
            {1, 2, 1, 1}, {1, 2, 3, 2}, {1, 2, 255, 128}, {1, 2, 254, 127}, {3, 2, 1, 2}, {3, 2, 255, 383},
            {127, 255, 1, 0}, {128, 255, 1, 1}, {1, 255, 127, 0}, {1, 255, 128, 1}, {1, 3, 1, 0}, {2, 3, 1, 1},
            {1, 4, 1, 0}, {1, 4, 2, 1}, {3, 4, 2, 2}, {3, 4, 6, 5}, {1, 254, 127, 1}, {1, 254, 126, 0},
            {255, 1, 255, 65025}, {255, 2, 1, 128}, {255, 2, 255, 32513}, {1, 255, 0, 0},
        };
        for (int[] c : cases) {
            PictureChange p = new PictureChange(4, 4);
            p.chart(0, 0, true);
            p.cell(false, 0, 0, c[0]);
            p.cell(true, 0, 0, c[1]);
            p.cell(true, 3, 2, c[2]);
            String name = "change of " + c[2] + " by " + c[0] + " / " + c[1];
            due(name + " from 0", () -> p.change(3, 2), c[3]);
            p.cell(false, 3, 2, 255);
            due(name + " from 255", () -> p.change(3, 2), Math.abs(255 - c[3]));
            p.cell(false, 3, 2, 1);
            due(name + " from 1", () -> p.change(3, 2), Math.abs(1 - c[3]));
        }
    }

    /** "without sign". */
    private static void changesHaveNoSign() {
        PictureChange p = new PictureChange(4, 4);
        int[][] pairs = {{0, 0, 0}, {0, 255, 255}, {255, 0, 255}, {255, 255, 0}, {100, 101, 1}, {101, 100, 1}};
        for (int[] pair : pairs) {
            p.cell(false, 3, 0, pair[0]);
            p.cell(true, 3, 0, pair[1]);
            due("change from " + pair[0] + " to " + pair[1], () -> p.change(3, 0), pair[2]);
        }
    }

    /** "of others 0": cells that lie on none have no change, and so are never marked. */
    private static void changesOfCellsOnNoneAreZero() {
        int[][] shifts = {{3, 0}, {-3, 0}, {0, 3}, {0, -3}, {3, 3}, {-3, -3}, {3, -3}, {-3, 3}, {1, 0}, {0, -1}};
        for (int[] shift : shifts) {
            PictureChange p = textured(8, 8, shift[0], shift[1]);
            p.register(3);
            p.floor(0);
            String name = "at " + shift[0] + ", " + shift[1];
            due("nothing is marked " + name, () -> p.run(), 0);
            for (int place = 0; place < 64; place++) {
                int x = place % 8;
                int y = place / 8;
                due("change of " + x + ", " + y + " " + name, () -> p.change(x, y), 0);
            }
        }
    }

    /** "REPEATS are values told for a cell, 0 .. 255". */
    private static void repeatsGoToTheirEnds() {
        PictureChange p = new PictureChange(4, 4);
        p.cell(false, 0, 3, 100);
        due("repeat 100", () -> p.repeat(0, 3, 100), 10);
        due("repeat -1", () -> p.repeat(0, 3, -1), ARGUMENT);
        due("repeat 256", () -> p.repeat(0, 3, 256), ARGUMENT);
        due("after those", () -> p.bound(0, 3), 10);
        due("repeat 0", () -> p.repeat(0, 3, 0), 110);
        due("repeat 255", () -> p.repeat(0, 3, 255), 165);
        due("all told", () -> p.count(6), 3);
    }

    /** "FLOOR (0 .. 255; 10 at first)". */
    private static void theFloorGoesToItsEnds() {
        PictureChange p = new PictureChange(4, 4);
        due("floor at first", () -> p.bound(0, 0), 10);
        due("floor 0", () -> p.floor(0), 10);
        due("floor -1", () -> p.floor(-1), ARGUMENT);
        due("bound by the least floor", () -> p.bound(3, 3), 0);
        due("floor 255", () -> p.floor(255), 0);
        due("floor 256", () -> p.floor(256), ARGUMENT);
        due("bound by the greatest floor", () -> p.bound(3, 3), 255);
        due("the greatest bound", () -> p.repeat(3, 3, 255), 510);
        due("floor again", () -> p.floor(10), 255);
    }

    /** "the greatest difference (without sign) of a repeat from the former value as it is now". */
    private static void theBoundIsByTheFormerValueNow() {
        PictureChange p = new PictureChange(4, 4);
        due("no repeat", () -> p.bound(1, 2), 10);
        p.cell(false, 1, 2, 255);
        due("no repeat, another value", () -> p.bound(1, 2), 10);
        due("a repeat like the former value", () -> p.repeat(1, 2, 255), 10);
        p.cell(false, 1, 2, 0);
        due("the value as it is now", () -> p.bound(1, 2), 265);
        due("a lesser difference leaves it", () -> p.repeat(1, 2, 254), 265);
        due("none leaves it", () -> p.repeat(1, 2, 0), 265);
        int[][] cases = {{0, 265}, {1, 264}, {127, 138}, {128, 138}, {129, 139}, {254, 264}, {255, 265}};
        for (int[] c : cases) {
            p.cell(false, 1, 2, c[0]);
            due("between 0 and 255, at " + c[0], () -> p.bound(1, 2), c[1]);
        }
        for (int[] at : new int[][] {{0, 2}, {2, 2}, {1, 1}, {1, 3}, {2, 1}}) {
            due("the others have none", () -> p.bound(at[0], at[1]), 10);
        }
        // A repeat between others never bears on the bound; the least one does from above.
        PictureChange q = new PictureChange(4, 4);
        q.cell(false, 0, 0, 50);
        q.repeat(0, 0, 60);
        q.repeat(0, 0, 55);
        q.repeat(0, 0, 58);
        q.cell(false, 0, 0, 90);
        due("the least repeat", () -> q.bound(0, 0), 45);
        q.cell(false, 0, 0, 20);
        due("the greatest repeat", () -> q.bound(0, 0), 50);
    }

    /** "MARKED are cells whose change is above their bound." */
    private static void markedIsAboveTheBound() {
        dueMarked("by the first floor", new PictureChange(4, 4), 10);
        PictureChange low = new PictureChange(4, 4);
        low.floor(0);
        dueMarked("by a floor of 0", low, 0);
        PictureChange high = new PictureChange(4, 4);
        high.floor(254);
        dueMarked("by a floor of 254", high, 254);
        PictureChange told = new PictureChange(4, 4);
        told.repeat(2, 1, 7);
        dueMarked("by a repeat", told, 17);

        PictureChange never = new PictureChange(4, 4);
        never.floor(255);
        never.cell(true, 2, 1, 255);
        due("marked by a floor of 255", () -> never.run(), 0);

        // With a gain of 3 a change may be above the greatest bound of 510.
        PictureChange bright = new PictureChange(4, 4);
        bright.floor(255);
        bright.repeat(2, 1, 255);
        bright.chart(0, 0, true);
        bright.cell(false, 0, 0, 3);
        bright.cell(true, 0, 0, 1);
        bright.cell(true, 2, 1, 170);
        due("at the greatest bound", () -> bright.change(2, 1), 510);
        due("marked at the greatest bound", () -> bright.run(), 0);
        bright.cell(true, 2, 1, 171);
        due("marked above the greatest bound", () -> bright.run(), 1);
    }

    private static void dueMarked(String name, PictureChange p, int bound) {
        due("bound " + name, () -> p.bound(2, 1), bound);
        p.cell(true, 2, 1, bound);
        due("at the bound " + name, () -> p.run(), 0);
        due("at the bound " + name + ", marked", () -> p.count(4), 0);
        p.cell(true, 2, 1, bound + 1);
        due("above the bound " + name, () -> p.run(), 1);
        due("above the bound " + name + ", marked", () -> p.count(4), 1);
        due("above the bound " + name + ", sum", () -> p.spot(0, 1), bound + 1);
    }

    /** "SPOTS are marked cells that are joined side by side". */
    private static void spotsAreJoinedSideBySide() {
        dueSpots("side by side", 1, "....", ".##.", "....", "....");
        dueSpots("one above the other", 1, "....", ".#..", ".#..", "....");
        dueSpots("by corners, falling", 2, "....", ".#..", "..#.", "....");
        dueSpots("by corners, rising", 2, "....", "..#.", ".#..", "....");
        dueSpots("one apart", 2, "....", "#.#.", "....", "....");
        dueSpots("corners joined by a third", 1, "....", ".#..", ".##.", "....");
        dueSpots("arms that meet below", 1, "#.#.#", "#.#.#", "#.#.#", "#####");
        dueSpots("arms that meet above", 1, "#####", "#.#.#", "#.#.#", "#.#.#");
        dueSpots("a ring round another", 2, "#####", "#...#", "#.#.#", "#...#", "#####");
    }

    private static void dueSpots(String name, int spots, String... rows) {
        PictureChange p = painted(rows);
        due("spots, " + name, () -> p.run(), spots);
        due("count of spots, " + name, () -> p.count(3), spots);
        due("marked, " + name, () -> p.count(4), String.join("", rows).chars().filter(c -> c == '#').count());
    }

    /** The last cell of a row and the first of the next, and the first and the last row, lie not side by side. */
    private static void spotsDoNotGoAroundTheEdges() {
        dueSpots("row ends", 2, "...#", "#...", "....", "....");
        dueSpots("both ends of a row", 2, "....", "#..#", "....", "....");
        dueSpots("both ends of a column", 2, ".#..", "....", "....", ".#..");
        dueSpots("all corners", 4, "#..#", "....", "....", "#..#");
        dueSpots("the last and the first cell", 2, "#...", "....", "....", "...#");
    }

    /** "numbered by their first cells, row by row". */
    private static void spotsAreNumberedByTheirFirstCells() {
        String[] rows = {
            "...#.#",
            "##.#..",
            "...#.#",
            "#.##..",
            "#....#",
        };
        String[] numbers = {
            "...0.1",
            "22.0..",
            "...0.3",
            "4.00..",
            "4....5",
        };
        PictureChange p = painted(rows);
        due("numbered: how many", () -> p.run(), 6);
        for (int place = 0; place < 30; place++) {
            int x = place % 6;
            int y = place / 6;
            char want = numbers[y].charAt(x);
            due("numbered: " + x + ", " + y, () -> p.map(x, y), want == '.' ? NONE : want - '0');
        }
    }

    /** Every other cell: no picture has more spots. */
    private static void asManySpotsAsThereCanBe() {
        int[][] boards = {{4, 4, 8}, {5, 4, 10}, {4, 5, 10}, {5, 5, 13}, {7, 5, 18}, {23, 23, 265}, {24, 23, 276},
            {24, 24, 288}, {4, 24, 48}, {24, 4, 48}};
        for (int[] board : boards) {
            PictureChange p = new PictureChange(board[0], board[1]);
            for (int y = 0; y < board[1]; y++) {
                for (int x = y % 2; x < board[0]; x += 2) {
                    p.cell(true, x, y, 11);
                }
            }
            String name = "every other cell of " + board[0] + ", " + board[1];
            int last = board[2] - 1;
            int lastX = (board[0] - 1 + board[1] - 1) % 2 == 0 ? board[0] - 1 : board[0] - 2;
            due(name, () -> p.run(), board[2]);
            due(name + ", marked", () -> p.count(4), board[2]);
            due(name + ", the last one's cells", () -> p.spot(last, 0), 1);
            due(name + ", the last one's box", () -> p.spot(last, 2), lastX);
            due(name + ", the last one's bottom", () -> p.spot(last, 5), board[1] - 1);
            due(name + ", the last one's map", () -> p.map(lastX, board[1] - 1), last);
            due(name + ", one more", () -> p.spot(last + 1, 0), INDEX);
            due(name + ", behind the last", () -> p.alarm(last, 0, 0), NONE);
            due(name + ", behind one more", () -> p.alarm(last + 1, 0, 0), INDEX);
            due(name + ", the last alarm", () -> p.alarm(last - 1, 10, HIGHEST), last);
        }
    }

    /** All cells marked, as bright as can be: the greatest sums. */
    private static void oneSpotOfAllCells() {
        PictureChange p = new PictureChange(20, 24);
        for (int place = 0; place < 480; place++) {
            p.cell(true, place % 20, place / 20, 255);
        }
        // One former cell of 255 under a later one of 1 makes a gain of 255.
        p.cell(false, 0, 0, 255);
        p.cell(true, 0, 0, 1);
        p.chart(0, 0, true);
        due("all cells", () -> p.run(), 1);
        // The chart itself is made even, so it is not marked.
        int[] want = {479, 479 * 65025, 0, 0, 19, 23, NONE};
        for (int what = 0; what < 7; what++) {
            int asked = what;
            due("all cells, " + what, () -> p.spot(0, asked), want[what]);
        }
        due("all cells, at the level", () -> p.alarm(NONE, 479 * 65025, 0), NONE);
        due("all cells, above the level", () -> p.alarm(NONE, 479 * 65025 - 1, 0), 0);
    }

    /** "A spot is a CRACK, if it has three cells or more"; "its LENGTH is its cells less 1". */
    private static void cracksHaveThreeCells() {
        dueLength("one", NONE, "#...", "....", "....", "....");
        dueLength("two across", NONE, "##..", "....", "....", "....");
        dueLength("two down", NONE, "....", "....", "...#", "...#");
        dueLength("three across", 2, "###.", "....", "....", "....");
        dueLength("three down", 2, "....", "...#", "...#", "...#");
        dueLength("three round a corner", 2, "##..", "#...", "....", "....");
        dueLength("three round another corner", 2, "....", "....", "...#", "..##");
        dueLength("four", 3, "....", "####", "....", "....");
        dueLength("four in steps", 3, "##..", ".##.", "....", "....");
    }

    /** "each of them at most two neighbours side by side in it". */
    private static void cracksHaveAtMostTwoNeighboursACell() {
        dueLength("a cell with three, down", NONE, "###.", ".#..", "....", "....");
        dueLength("a cell with three, up", NONE, ".#..", "###.", "....", "....");
        dueLength("a cell with three, left", NONE, ".#..", "##..", ".#..", "....");
        dueLength("a cell with three, right", NONE, "#...", "##..", "#...", "....");
        dueLength("a cell with four", NONE, ".#..", "###.", ".#..", "....");
        dueLength("a ring with two tails", NONE, "...##", "..#.#", ".####", "..#..");
        dueLength("a block with two tails", NONE, "#...", "##..", ".##.", ".##.", "....");
        dueLength("two ends and two cells with three", NONE, "....", "####", ".##.", "....");
        dueLength("corners are no neighbours", 6, "#.#.", "#.#.", "###.", "....");
        dueLength("many corners", 6, "##...", ".##..", "..##.", "...#.");
    }

    /** "and just two of them one". */
    private static void cracksHaveJustTwoEnds() {
        dueLength("a block has no end", NONE, "....", ".##.", ".##.", "....");
        dueLength("a ring has no end", NONE, "###.", "#.#.", "###.", "....");
        dueLength("a wide ring has no end", NONE, "####", "#..#", "#..#", "####");
        dueLength("a ring that is open", 6, "###.", "#.#.", "#.#.", "....");
        dueLength("a tail of a ring is one end", NONE, "###.", "#.##", "###.", "....");
        dueLength("a fork has three", NONE, "#.#.", "###.", ".#..", ".#..");
    }

    private static void dueLength(String name, int want, String... rows) {
        PictureChange p = painted(rows);
        due("crack, " + name + ", is one spot", () -> p.run(), 1);
        due("crack, " + name, () -> p.spot(0, 6), want);
    }

    /** A crack to and fro over the greatest picture. */
    private static void theLongestCrack() {
        PictureChange p = new PictureChange(24, 24);
        int cells = 0;
        for (int y = 0; y < 24; y++) {
            for (int x = 0; x < 24; x++) {
                boolean turn = y % 4 == 1 ? x == 23 : x == 0;
                if (y % 2 == 0 || (turn && y < 23)) {
                    p.cell(true, x, y, 200);
                    cells++;
                }
            }
        }
        int all = cells;
        due("to and fro", () -> p.run(), 1);
        due("to and fro, cells", () -> p.spot(0, 0), all);
        due("to and fro, length", () -> p.spot(0, 6), all - 1);
        due("to and fro, an alarm", () -> p.alarm(NONE, HIGHEST, all - 1), 0);
        due("to and fro, no alarm", () -> p.alarm(NONE, HIGHEST, all), NONE);
        p.cell(true, 0, 23, 200);
        p.cell(true, 0, 21, 200);
        due("closed in itself", () -> p.run(), 1);
        due("closed in itself, length", () -> p.spot(0, 6), NONE);
    }

    /** "All that is told of marks and spots is as it was when they were looked for." */
    private static void allIsToldAsItWasWhenLookedFor() {
        PictureChange p = painted("###.", "....", "#...", "....");
        p.cell(false, 3, 3, 90);
        due("looked for", () -> p.run(), 3);
        dueAsLookedFor("at once", p);
        p.cell(true, 1, 0, 0);
        p.cell(true, 3, 2, 200);
        dueAsLookedFor("after the later picture's cells", p);
        p.cell(false, 3, 3, 0);
        dueAsLookedFor("after the former picture's cells", p);
        p.chart(0, 0, true);
        p.cell(false, 0, 0, 200);
        dueAsLookedFor("after a chart", p);
        p.register(3);
        dueAsLookedFor("after a shift", p);
        p.repeat(0, 2, 255);
        dueAsLookedFor("after a repeat", p);
        p.floor(255);
        dueAsLookedFor("after a floor", p);
        p.day(1);
        dueAsLookedFor("after a day", p);
        due("looked for anew", () -> p.run(), 0);
        due("anew, spots", () -> p.count(3), 0);
        due("anew, marked", () -> p.count(4), 0);
        due("anew, a spot", () -> p.spot(0, 0), INDEX);
        due("anew, a cell", () -> p.map(0, 0), NONE);
        due("anew, an alarm", () -> p.alarm(NONE, LOWEST, LOWEST), NONE);
        due("anew, behind a spot", () -> p.alarm(0, 0, 0), INDEX);
    }

    private static void dueAsLookedFor(String name, PictureChange p) {
        int[][] facts = {{3, 300, 0, 0, 2, 0, 2}, {1, 100, 0, 2, 0, 2, NONE}, {1, 90, 3, 3, 3, 3, NONE}};
        for (int place = 0; place < 21; place++) {
            int k = place / 7;
            int what = place % 7;
            due(name + ", spot " + k + ", " + what, () -> p.spot(k, what), facts[k][what]);
        }
        due(name + ", spots", () -> p.count(3), 3);
        due(name + ", marked", () -> p.count(4), 5);
        due(name + ", a cell", () -> p.map(1, 0), 0);
        due(name + ", no cell of a spot", () -> p.map(3, 2), NONE);
        due(name + ", the last cell", () -> p.map(3, 3), 2);
        due(name + ", an alarm", () -> p.alarm(1, 89, HIGHEST), 2);
        due(name + ", a crack", () -> p.alarm(NONE, HIGHEST, 2), 0);
        due(name + ", one more", () -> p.spot(3, 0), INDEX);
    }
}
