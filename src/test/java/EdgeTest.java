import java.math.BigInteger;

/** Promises 1 to 18 at their edges: the last input that is allowed, the first that is not, empty, full, refused. */
public final class EdgeTest extends Checks {
    public static void main(String[] args) {
        aNewObjectHasNothing();
        cellTellsWhatItWas();
        registerTellsTheSum();
        registerTakesMostZeroToThree();
        registerForgetsTheFormerShift();
        shiftHasTwoAxes();
        chartTellsWhetherThatWasNotSo();
        chartsStayTheSameWhenOneGoes();
        gainIsAsItIsNow();
        repeatTellsTheBoundThen();
        floorIsOfAllBounds();
        boundIsAsItIsNow();
        changeIsAsItIsNow();
        runTellsHowManySpots();
        runForgetsTheFormerMarks();
        spotTellsItsBox();
        spotTellsTheSumOfChanges();
        spotHasSevenFacts();
        mapTellsEachCell();
        alarmIsAboveALevel();
        alarmIsAtLeastALength();
        alarmIsBehindOne();
        alarmWithoutSpots();
        falseOnesAreFurtherThanTheFloor();
        falseOnesAreAsTheyWereTold();
        dayIsZeroToTenThousand();
        dayIsAboveTheLatestOne();
        daysAreAtMostThirty();
        dayKeepsTheMarksOfTheLatestRun();
        growthNeedsTwoDays();
        growthCannotBeLessened();
        growthOfAllThirtyDays();
        growthOfTheGreatestSums();
        countTellsEachOfSeven();
        finish();
    }

    /** 1: "Two pictures; no charts, repeats, days; nothing looked for." */
    private static void aNewObjectHasNothing() {
        PictureChange p = new PictureChange(6, 5);
        int[] counts = {6, 5, 0, 0, 0, 0, 0};
        for (int what = 0; what < 7; what++) {
            int asked = what;
            due("1: count " + what, () -> p.count(asked), counts[what]);
        }
        for (int place = 0; place < 30; place++) {
            int x = place % 6;
            int y = place / 6;
            due("1: map", () -> p.map(x, y), NONE);
            due("1: change", () -> p.change(x, y), 0);
            due("1: bound", () -> p.bound(x, y), 10);
            due("1: chart", () -> bit(p.chart(x, y, false)), 0);
        }
        due("1: false ones", () -> p.falseOnes(), 0);
        due("1: no spot", () -> p.spot(0, 0), INDEX);
        due("1: no alarm", () -> p.alarm(NONE, LOWEST, LOWEST), NONE);
        due("1: growth", () -> p.growth(0), 0);
        due("1: growth, below", () -> p.growth(1), 1);
        due("1: nothing to look for", () -> p.run(), 0);
        due("1: the first day", () -> p.day(0), 1);
        // Two objects have nothing in common.
        PictureChange q = new PictureChange(6, 5);
        due("1: another's days", () -> q.count(5), 0);
        p.cell(true, 5, 4, 200);
        p.floor(100);
        due("1: another's cells", () -> q.cell(true, 5, 4, 1), 0);
        due("1: another's floor", () -> q.bound(0, 0), 10);
    }

    /** 2: "A cell of the former (later: false) or the later one: what it was." */
    private static void cellTellsWhatItWas() {
        PictureChange p = new PictureChange(24, 4);
        int[][] cells = {{0, 0}, {23, 0}, {0, 3}, {23, 3}, {0, 1}, {22, 3}};
        for (int k = 0; k < cells.length; k++) {
            int[] at = cells[k];
            int v = 40 + k;
            due("2: former at first", () -> p.cell(false, at[0], at[1], v), 0);
            due("2: later at first", () -> p.cell(true, at[0], at[1], v + 160), 0);
        }
        for (int k = 0; k < cells.length; k++) {
            int[] at = cells[k];
            due("2: former", () -> p.cell(false, at[0], at[1], 255), 40 + k);
            due("2: later", () -> p.cell(true, at[0], at[1], 255), 200 + k);
            due("2: the same again", () -> p.cell(true, at[0], at[1], 255), 255);
        }
    }

    /** 3: "the sum of the differences at the shift that it finds", not divided, and not at another shift. */
    private static void registerTellsTheSum() {
        PictureChange p = new PictureChange(4, 4);
        due("3: all alike", () -> p.register(0), 0);
        p.cell(false, 3, 3, 255);
        due("3: one cell", () -> p.register(0), 255);
        p.cell(true, 0, 0, 254);
        due("3: two cells", () -> p.register(0), 509);
        PictureChange q = textured(8, 8, -2, 1);
        q.cell(true, 3, 4, texture(5, 3) + 9);
        q.cell(true, 7, 0, 255);
        due("3: at the shift alone", () -> q.register(2), 9);

        PictureChange all = new PictureChange(20, 24);
        for (int place = 0; place < 480; place++) {
            all.cell(true, place % 20, place / 20, 255);
        }
        due("3: the greatest sum", () -> all.register(3), 480 * 255);
        due("3: the greatest sum, across", () -> all.shift(0), 0);
        due("3: the greatest sum, down", () -> all.shift(1), 0);
    }

    /** 3: "IllegalArgumentException: most is not 0 .. 3." */
    private static void registerTakesMostZeroToThree() {
        PictureChange p = new PictureChange(4, 4);
        for (int most = 0; most <= 3; most++) {
            int asked = most;
            due("3: most " + most, () -> p.register(asked), 0);
        }
        for (int most : new int[] {-1, 4, LOWEST, HIGHEST}) {
            due("3: most " + most, () -> p.register(most), ARGUMENT);
        }
    }

    /** 3: each register() looks at all shifts anew, whatever the one before has found. */
    private static void registerForgetsTheFormerShift() {
        PictureChange p = textured(8, 8, 3, -3);
        p.register(3);
        due("3: found, across", () -> p.shift(0), 3);
        due("3: found, down", () -> p.shift(1), -3);
        p.register(0);
        due("3: most 0, across", () -> p.shift(0), 0);
        due("3: most 0, down", () -> p.shift(1), 0);
        p.register(3);
        due("3: found again", () -> p.shift(0), 3);
        p.register(2);
        due("3: most 2", () -> bit(Math.abs(p.shift(0)) < 3 && Math.abs(p.shift(1)) < 3), 1);
        p.register(3);
        due("3: refused", () -> p.register(4), ARGUMENT);
        due("3: a refused call leaves it, across", () -> p.shift(0), 3);
        due("3: a refused call leaves it, down", () -> p.shift(1), -3);
    }

    /** 4: "0 across, 1 down." */
    private static void shiftHasTwoAxes() {
        PictureChange p = textured(8, 8, -2, 3);
        p.register(3);
        due("4: across", () -> p.shift(0), -2);
        due("4: down", () -> p.shift(1), 3);
        due("4: axis -1", () -> p.shift(-1), INDEX);
        due("4: axis 2", () -> p.shift(2), INDEX);
    }

    /** 5: "A chart, or none any more: whether that was not so." */
    private static void chartTellsWhetherThatWasNotSo() {
        PictureChange p = new PictureChange(4, 4);
        boolean[] told = {false, true, true, false, false, true};
        long[] want = {0, 1, 0, 1, 0, 1};
        for (int k = 0; k < told.length; k++) {
            boolean on = told[k];
            due("5: call " + k, () -> bit(p.chart(3, 0, on)), want[k]);
            due("5: how many after call " + k, () -> p.count(2), k == 1 || k == 2 || k == 5 ? 1 : 0);
        }
        due("5: turned about", () -> bit(p.chart(0, 3, true)), 1);
        due("5: how many", () -> p.count(2), 2);
    }

    /** 5: whichever of twelve goes, the other eleven stay, and there is room for one. */
    private static void chartsStayTheSameWhenOneGoes() {
        for (int gone = 0; gone < 12; gone++) {
            PictureChange p = new PictureChange(4, 4);
            for (int k = 0; k < 12; k++) {
                p.chart(k % 4, k / 4, true);
            }
            int goneX = gone % 4;
            int goneY = gone / 4;
            due("5: the twelfth is there", () -> bit(p.chart(3, 2, true)), 0);
            due("5: a thirteenth", () -> bit(p.chart(0, 3, true)), STATE);
            due("5: gone", () -> bit(p.chart(goneX, goneY, false)), 1);
            due("5: eleven", () -> p.count(2), 11);
            due("5: a twelfth again", () -> bit(p.chart(1, 3, true)), 1);
            due("5: full again", () -> bit(p.chart(goneX, goneY, true)), STATE);
            for (int k = 0; k < 12; k++) {
                int x = k % 4;
                int y = k / 4;
                due("5: without " + gone + ", off " + k, () -> bit(p.chart(x, y, false)), k == gone ? 0 : 1);
            }
            due("5: one is left", () -> p.count(2), 1);
        }
    }

    /** 6: "The gain as it is now": by cells, charts and shift as they are. */
    private static void gainIsAsItIsNow() {
        PictureChange p = textured(8, 8, 1, 0);
        dueGain("no chart", p, 1, 1);
        p.chart(2, 2, true);
        p.register(0);
        p.cell(true, 2, 2, 100);
        p.cell(false, 2, 2, 50);
        dueGain("a chart", p, 1, 2);
        p.cell(true, 2, 2, 75);
        dueGain("another later value", p, 2, 3);
        p.cell(false, 2, 2, 60);
        dueGain("another former value", p, 4, 5);
        p.cell(false, 2, 2, texture(2, 2));
        p.register(1);
        dueGain("another shift", p, 1, 1);
        p.cell(true, 3, 2, texture(2, 2) + 1);
        dueGain("the cell at that shift", p, texture(2, 2), texture(2, 2) + 1);
        p.chart(2, 2, false);
        dueGain("no chart any more", p, 1, 1);
        due("6: part -1", () -> p.gain(-1), INDEX);
        due("6: part 2", () -> p.gain(2), INDEX);
    }

    private static void dueGain(String name, PictureChange p, int above, int below) {
        due("6: " + name + ", above", () -> p.gain(0), above);
        due("6: " + name + ", below", () -> p.gain(1), below);
    }

    /** 7: "A repeat of a cell: its bound then." */
    private static void repeatTellsTheBoundThen() {
        PictureChange p = new PictureChange(4, 4);
        p.floor(0);
        due("7: like it", () -> p.repeat(3, 3, 0), 0);
        due("7: one off", () -> p.repeat(3, 3, 1), 1);
        due("7: the greatest", () -> p.repeat(3, 3, 255), 255);
        due("7: a nearer one", () -> p.repeat(3, 3, 254), 255);
        due("7: another cell", () -> p.repeat(3, 2, 9), 9);
        p.cell(false, 3, 2, 255);
        due("7: another former value", () -> p.repeat(3, 2, 250), 246);
        due("7: the same repeat counts again", () -> p.repeat(3, 2, 250), 246);
        due("7: how many", () -> p.count(6), 7);
        due("7: -1", () -> p.repeat(3, 3, -1), ARGUMENT);
        due("7: 256", () -> p.repeat(3, 3, 256), ARGUMENT);
        due("7: no cell", () -> p.repeat(4, 3, 0), INDEX);
        due("7: refused ones are not told", () -> p.count(6), 7);
    }

    /** 8: "The floor of all bounds: what it was." */
    private static void floorIsOfAllBounds() {
        PictureChange p = new PictureChange(4, 5);
        p.repeat(3, 4, 6);
        due("8: at first", () -> p.floor(255), 10);
        for (int place = 0; place < 20; place++) {
            int x = place % 4;
            int y = place / 4;
            due("8: bound of " + x + ", " + y, () -> p.bound(x, y), place == 19 ? 261 : 255);
        }
        due("8: 256", () -> p.floor(256), ARGUMENT);
        due("8: what it was", () -> p.floor(0), 255);
        due("8: -1", () -> p.floor(-1), ARGUMENT);
        due("8: no floor", () -> p.bound(3, 4), 6);
        due("8: the same", () -> p.floor(0), 0);
    }

    /** 9: "A cell's bound now." */
    private static void boundIsAsItIsNow() {
        PictureChange p = new PictureChange(5, 4);
        p.repeat(4, 3, 20);
        due("9: by the first floor", () -> p.bound(4, 3), 30);
        p.floor(11);
        due("9: by another floor", () -> p.bound(4, 3), 31);
        p.cell(false, 4, 3, 20);
        due("9: by another former value", () -> p.bound(4, 3), 11);
        p.cell(false, 4, 3, 21);
        due("9: by one more", () -> p.bound(4, 3), 12);
        p.cell(true, 4, 3, 255);
        due("9: not by the later value", () -> p.bound(4, 3), 12);
        p.run();
        due("9: not by a run", () -> p.bound(4, 3), 12);
        due("9: the last cell of another row", () -> p.bound(4, 2), 11);
        due("9: right of it", () -> p.bound(5, 3), INDEX);
        due("9: below it", () -> p.bound(4, 4), INDEX);
    }

    /** 10: "A cell's change now." */
    private static void changeIsAsItIsNow() {
        PictureChange p = textured(8, 8, 0, 1);
        int before = Math.abs(texture(4, 4) - texture(4, 3));
        due("10: before the shift", () -> p.change(4, 4), before);
        p.run();
        due("10: after a run", () -> p.change(4, 4), before);
        p.register(1);
        due("10: at the shift", () -> p.change(4, 4), 0);
        p.cell(true, 4, 5, 0);
        due("10: another later value", () -> p.change(4, 4), texture(4, 4));
        p.cell(false, 4, 4, 255);
        due("10: another former value", () -> p.change(4, 4), 255);
        p.chart(4, 4, true);
        p.cell(true, 4, 5, 51);
        due("10: at a chart", () -> p.change(4, 4), 0);
        due("10: by another gain", () -> p.change(0, 0), 4 * texture(0, 0));
        due("10: on none", () -> p.change(7, 7), 0);
        due("10: no cell", () -> p.change(7, 8), INDEX);
    }

    /** 11: "Looks for marks and spots: how many spots." */
    private static void runTellsHowManySpots() {
        PictureChange p = new PictureChange(4, 4);
        due("11: none", () -> p.run(), 0);
        for (int k = 0; k < 8; k++) {
            int y = k / 2;
            p.cell(true, k % 2 * 2 + y % 2, y, 11);
            due("11: one more", () -> p.run(), k + 1);
        }
        p.floor(0);
        for (int place = 0; place < 16; place++) {
            p.cell(true, place % 4, place / 4, 1);
        }
        due("11: all cells", () -> p.run(), 1);
        due("11: all cells, marked", () -> p.count(4), 16);
        p.floor(1);
        due("11: none again", () -> p.run(), 0);
        due("11: twice the same", () -> p.run(), 0);
    }

    /** 11: what an earlier run() has found is gone with the next one. */
    private static void runForgetsTheFormerMarks() {
        PictureChange p = painted("##.#", "....", "#.#.", "....");
        due("11: first", () -> p.run(), 4);
        due("11: first, marked", () -> p.count(4), 5);
        p.cell(true, 0, 0, 0);
        p.cell(true, 3, 0, 0);
        p.cell(true, 0, 2, 0);
        p.cell(true, 1, 2, 100);
        due("11: second", () -> p.run(), 2);
        due("11: second, marked", () -> p.count(4), 3);
        due("11: second, a cell no longer marked", () -> p.map(0, 0), NONE);
        due("11: second, the last spot", () -> p.map(2, 2), 1);
        due("11: second, no third", () -> p.spot(2, 0), INDEX);
        due("11: second, box", () -> p.spot(0, 2), 1);
        due("11: second, the same without a change", () -> p.run(), 2);
        due("11: second, the same cells", () -> p.spot(1, 0), 2);
    }

    /** 12: "2 the left, 3 the top, 4 the right, 5 the bottom of its box". */
    private static void spotTellsItsBox() {
        dueBox("first cell", 0, 0, 0, 0, "#....", ".....", ".....", ".....");
        dueBox("end of the first row", 4, 0, 4, 0, "....#", ".....", ".....", ".....");
        dueBox("start of the last row", 0, 3, 0, 3, ".....", ".....", ".....", "#....");
        dueBox("last cell", 4, 3, 4, 3, ".....", ".....", ".....", "....#");
        dueBox("a row", 0, 1, 4, 1, ".....", "#####", ".....", ".....");
        dueBox("a column", 3, 0, 3, 3, "...#.", "...#.", "...#.", "...#.");
        dueBox("left below its first cell", 0, 0, 2, 2, "..#..", "..#..", "###..", ".....");
        dueBox("right above its last cell", 0, 1, 3, 3, ".....", "####.", "#....", "#....");
        dueBox("all", 0, 0, 4, 3, "#####", "#####", "#####", "#####");
    }

    private static void dueBox(String name, int left, int top, int right, int bottom, String... rows) {
        PictureChange p = painted(rows);
        due("12: " + name, () -> p.run(), 1);
        due("12: " + name + ", left", () -> p.spot(0, 2), left);
        due("12: " + name + ", top", () -> p.spot(0, 3), top);
        due("12: " + name + ", right", () -> p.spot(0, 4), right);
        due("12: " + name + ", bottom", () -> p.spot(0, 5), bottom);
        due("12: " + name + ", cells", () -> p.spot(0, 0), p.count(4));
    }

    /** 12: "1 the sum of their changes": of its own cells, marked ones alone. */
    private static void spotTellsTheSumOfChanges() {
        PictureChange p = new PictureChange(4, 4);
        p.cell(true, 0, 0, 11);
        p.cell(true, 1, 0, 10);
        p.cell(false, 0, 1, 255);
        p.cell(true, 3, 3, 40);
        p.cell(false, 3, 3, 7);
        due("12: sums", () -> p.run(), 2);
        due("12: both ways", () -> p.spot(0, 1), 266);
        due("12: the cell at its bound is not of it", () -> p.spot(0, 0), 2);
        due("12: the difference", () -> p.spot(1, 1), 33);
    }

    /** 12: "0 how many cells .. 6 its length"; "IndexOutOfBoundsException: there is none, or what is none of these." */
    private static void spotHasSevenFacts() {
        PictureChange p = painted("#...", "#.#.", "#...", "....");
        due("12: before run()", () -> p.spot(0, 0), INDEX);
        p.run();
        int[] crack = {3, 300, 0, 0, 0, 2, 2};
        int[] other = {1, 100, 2, 1, 2, 1, NONE};
        for (int what = 0; what < 7; what++) {
            int asked = what;
            due("12: the crack, " + what, () -> p.spot(0, asked), crack[what]);
            due("12: the other, " + what, () -> p.spot(1, asked), other[what]);
            due("12: one more, " + what, () -> p.spot(2, asked), INDEX);
            due("12: one less, " + what, () -> p.spot(NONE, asked), INDEX);
        }
        for (int k = 0; k < 2; k++) {
            int asked = k;
            due("12: what -1", () -> p.spot(asked, -1), INDEX);
            due("12: what 7", () -> p.spot(asked, 7), INDEX);
        }
    }

    /** 13: "The spot that a cell is of; NONE." */
    private static void mapTellsEachCell() {
        PictureChange p = painted("#..#", "....", "....", "#..#");
        due("13: before run()", () -> p.map(0, 0), NONE);
        p.run();
        int[][] corners = {{0, 0}, {3, 0}, {0, 3}, {3, 3}};
        for (int k = 0; k < 4; k++) {
            int[] at = corners[k];
            due("13: corner " + k, () -> p.map(at[0], at[1]), k);
        }
        for (int[] at : new int[][] {{1, 0}, {2, 0}, {0, 1}, {3, 1}, {0, 2}, {2, 3}}) {
            due("13: beside", () -> p.map(at[0], at[1]), NONE);
        }
        for (int[] at : new int[][] {{-1, 0}, {4, 0}, {0, -1}, {0, 4}, {4, 3}, {3, 4}, {-1, 3}, {3, -1}}) {
            due("13: no cell", () -> p.map(at[0], at[1]), INDEX);
        }
        p.floor(100);
        p.run();
        due("13: none any more", () -> p.map(0, 0), NONE);
        due("13: none any more", () -> p.map(3, 3), NONE);
    }

    /** 14: "whose sum of changes is above a level". */
    private static void alarmIsAboveALevel() {
        PictureChange p = painted("##.#", "##..", "...#", ".#.#");
        p.cell(true, 3, 0, 11);
        due("14: spots", () -> p.run(), 4);
        // Sums 400, 11, 200 and 100, and none of them is a crack.
        int[] levels = {LOWEST, -1, 0, 10, 11, 399, 400, HIGHEST};
        int[] first = {0, 0, 0, 0, 0, 0, NONE, NONE};
        int[] second = {1, 1, 1, 1, 2, NONE, NONE, NONE};
        for (int k = 0; k < levels.length; k++) {
            int level = levels[k];
            due("14: level " + level, () -> p.alarm(NONE, level, HIGHEST), first[k]);
            due("14: level " + level + ", behind 0", () -> p.alarm(0, level, HIGHEST), second[k]);
        }
        due("14: just above 199", () -> p.alarm(0, 199, HIGHEST), 2);
        due("14: not above 200", () -> p.alarm(0, 200, HIGHEST), NONE);
        due("14: just above 99", () -> p.alarm(2, 99, HIGHEST), 3);
        due("14: not above 100", () -> p.alarm(2, 100, HIGHEST), NONE);
    }

    /** 14: "or that is a crack with at least that length": what is no crack has no length at all. */
    private static void alarmIsAtLeastALength() {
        PictureChange p = painted(
                "##.##",
                "...##",
                "###..",
                "....#",
                "#####");
        // Two cells, a block, a crack of length 2 and one of length 5.
        due("14: spots", () -> p.run(), 4);
        int[] lengths = {LOWEST, -2, -1, 0, 1, 2, 3, 4, 5, 6, HIGHEST};
        int[] want = {2, 2, 2, 2, 2, 2, 3, 3, 3, NONE, NONE};
        for (int k = 0; k < lengths.length; k++) {
            int length = lengths[k];
            due("14: length " + length, () -> p.alarm(NONE, HIGHEST, length), want[k]);
            due("14: length " + length + ", behind 1", () -> p.alarm(1, HIGHEST, length), want[k]);
            due("14: length " + length + ", behind 2", () -> p.alarm(2, HIGHEST, length), length <= 5 ? 3 : NONE);
        }
        due("14: the block by its sum, before the crack", () -> p.alarm(NONE, 399, 2), 1);
        due("14: the crack by its length, before the sum", () -> p.alarm(NONE, 400, 2), 2);
        due("14: the longer crack by its sum", () -> p.alarm(NONE, 599, 6), 3);
        due("14: neither", () -> p.alarm(NONE, 600, 6), NONE);
    }

    /** 14: "The first spot behind one (NONE: from the first on)"; "after is below NONE or no spot". */
    private static void alarmIsBehindOne() {
        PictureChange p = painted("#.#.", "....", "#.#.", "....");
        due("14: spots", () -> p.run(), 4);
        for (int after = NONE; after < 4; after++) {
            int asked = after;
            due("14: behind " + after, () -> p.alarm(asked, 0, 0), after < 3 ? after + 1 : NONE);
            due("14: behind " + after + ", never", () -> p.alarm(asked, HIGHEST, 0), NONE);
        }
        for (int after : new int[] {-2, 4, 5, LOWEST, HIGHEST}) {
            due("14: behind " + after, () -> p.alarm(after, 0, 0), INDEX);
            due("14: behind " + after + ", never", () -> p.alarm(after, HIGHEST, HIGHEST), INDEX);
        }
    }

    /** 14: where there are no spots, only NONE is no wrong one. */
    private static void alarmWithoutSpots() {
        PictureChange p = new PictureChange(4, 4);
        for (int k = 0; k < 2; k++) {
            due("14: from the first on", () -> p.alarm(NONE, LOWEST, LOWEST), NONE);
            due("14: behind 0", () -> p.alarm(0, LOWEST, LOWEST), INDEX);
            due("14: below NONE", () -> p.alarm(-2, LOWEST, LOWEST), INDEX);
            p.run();
        }
    }

    /** 15: "How many repeats of all told ones were further than the floor from the former value". */
    private static void falseOnesAreFurtherThanTheFloor() {
        int[] floors = {0, 1, 10, 127};
        for (int floor : floors) {
            PictureChange p = new PictureChange(4, 4);
            p.floor(floor);
            p.cell(false, 2, 3, 127);
            p.repeat(2, 3, 127);
            p.repeat(2, 3, 127 + floor);
            p.repeat(2, 3, 127 - floor);
            due("15: at a floor of " + floor, () -> p.falseOnes(), 0);
            p.repeat(2, 3, 127 + floor + 1);
            due("15: above a floor of " + floor, () -> p.falseOnes(), 1);
            if (floor < 127) {
                p.repeat(2, 3, 127 - floor - 1);
                due("15: below a floor of " + floor, () -> p.falseOnes(), 2);
            }
        }
        PictureChange p = new PictureChange(4, 4);
        p.floor(255);
        p.repeat(0, 0, 255);
        due("15: never beyond a floor of 255", () -> p.falseOnes(), 0);
        p.floor(254);
        p.repeat(0, 0, 255);
        due("15: beyond a floor of 254", () -> p.falseOnes(), 1);
        p.repeat(3, 3, 255);
        due("15: of all cells", () -> p.falseOnes(), 2);
        due("15: refused", () -> p.repeat(4, 3, 255), INDEX);
        due("15: refused", () -> p.repeat(3, 3, 256), ARGUMENT);
        due("15: refused ones are not told", () -> p.falseOnes(), 2);
    }

    /** 15: ".. as it was when they were told". */
    private static void falseOnesAreAsTheyWereTold() {
        PictureChange p = new PictureChange(4, 4);
        p.cell(false, 1, 1, 100);
        p.repeat(1, 1, 110);
        p.cell(false, 1, 1, 99);
        due("15: near when it was told", () -> p.falseOnes(), 0);
        p.repeat(1, 1, 110);
        due("15: far when it was told", () -> p.falseOnes(), 1);
        p.cell(false, 1, 1, 110);
        due("15: still", () -> p.falseOnes(), 1);
        p.cell(true, 1, 1, 0);
        p.repeat(1, 1, 110);
        due("15: the later picture bears on nothing", () -> p.falseOnes(), 1);
        p.run();
        due("15: nor does a run", () -> p.falseOnes(), 1);
    }

    /** 16: "A day 0 .. 10000". */
    private static void dayIsZeroToTenThousand() {
        PictureChange p = new PictureChange(4, 4);
        due("16: -1", () -> p.day(-1), ARGUMENT);
        due("16: 10001", () -> p.day(10001), ARGUMENT);
        due("16: farthest below", () -> p.day(LOWEST), ARGUMENT);
        due("16: farthest above", () -> p.day(HIGHEST), ARGUMENT);
        due("16: none of these is kept", () -> p.count(5), 0);
        due("16: 0", () -> p.day(0), 1);
        due("16: 10000", () -> p.day(10000), 2);
        due("16: behind the last one", () -> p.day(10001), ARGUMENT);
        due("16: two are kept", () -> p.count(5), 2);
        PictureChange q = new PictureChange(4, 4);
        due("16: 10000 as the first", () -> q.day(10000), 1);
        due("16: no day is above it", () -> q.day(10000), ARGUMENT);
    }

    /** 16: "above the latest one". */
    private static void dayIsAboveTheLatestOne() {
        PictureChange p = new PictureChange(4, 4);
        p.day(50);
        due("16: before it", () -> p.day(49), ARGUMENT);
        due("16: itself", () -> p.day(50), ARGUMENT);
        due("16: the next", () -> p.day(51), 2);
        due("16: the first of them", () -> p.day(50), ARGUMENT);
        due("16: itself", () -> p.day(51), ARGUMENT);
        due("16: a refused one is not the latest", () -> p.day(20000), ARGUMENT);
        due("16: the next", () -> p.day(52), 3);
    }

    /** 16: "IllegalStateException: there are 30."; what the argument asks for comes first. */
    private static void daysAreAtMostThirty() {
        PictureChange p = new PictureChange(4, 4);
        for (int k = 1; k <= 30; k++) {
            int day = 9969 + k;
            due("16: day " + k, () -> p.day(day), k);
        }
        due("16: a day more", () -> p.day(10000), STATE);
        due("16: the latest", () -> p.day(9999), ARGUMENT);
        due("16: beyond the last", () -> p.day(10001), ARGUMENT);
        due("16: thirty", () -> p.count(5), 30);
        due("16: still", () -> p.day(10000), STATE);

        PictureChange q = new PictureChange(4, 4);
        for (int k = 1; k <= 30; k++) {
            q.day(9970 + k);
        }
        due("16: no day is above the last", () -> q.day(10000), ARGUMENT);
    }

    /** 16: "keeps how many cells are marked by the latest run() (0 without any)". */
    private static void dayKeepsTheMarksOfTheLatestRun() {
        PictureChange p = painted("###.", "....", "....", "...#");
        p.day(0);
        due("16: one day", () -> p.growth(0), 0);
        p.run();
        p.cell(true, 0, 0, 0);
        p.cell(true, 1, 0, 0);
        p.day(1);
        due("16: 0 and then 4", () -> p.growth(0), 4);
        p.run();
        p.run();
        due("16: a run alone keeps nothing", () -> p.growth(0), 4);
        p.day(2);
        // 0, 4, 2 on days 0, 1, 2
        due("16: and then 2", () -> p.growth(0), 1);
        p.floor(255);
        p.run();
        p.day(3);
        // 0, 4, 2, 0 on days 0 .. 3: 4 * 8 - 6 * 6 = -4 by 4 * 14 - 36 = 20
        due("16: and then none", () -> p.growth(0), -1);
        due("16: and then none, below", () -> p.growth(1), 5);
    }

    /** 17: "0 / 1 with less than two days". */
    private static void growthNeedsTwoDays() {
        PictureChange p = painted("####", "....", "....", "....");
        p.run();
        dueGrowth("no day", p, 0, 1);
        p.day(100);
        dueGrowth("one day", p, 0, 1);
        p.day(10000);
        dueGrowth("two days alike", p, 0, 1);
        PictureChange q = painted("####", "....", "....", "....");
        q.day(0);
        q.run();
        q.day(10000);
        dueGrowth("two days", q, 1, 2500);
        due("17: part -1", () -> q.growth(-1), INDEX);
        due("17: part 2", () -> q.growth(2), INDEX);
    }

    private static void dueGrowth(String name, PictureChange p, long above, long below) {
        due("17: " + name + ", above", () -> p.growth(0), above);
        due("17: " + name + ", below", () -> p.growth(1), below);
    }

    /** 17: "below (1, above 0) of the fraction that cannot be lessened". */
    private static void growthCannotBeLessened() {
        PictureChange p = painted("####", "##..", "....", "....");
        p.run();
        p.day(10);
        p.floor(255);
        p.run();
        p.day(14);
        dueGrowth("6 less in 4 days", p, -3, 2);
        p.day(18);
        // 6, 0, 0 on days 10, 14, 18
        dueGrowth("falling", p, -3, 4);
        p.floor(10);
        p.run();
        p.day(22);
        // 6, 0, 0, 6
        dueGrowth("there and back", p, 0, 1);
        p.day(23);
        // 6, 0, 0, 6, 6: 5 * 330 - 87 * 18 = 84 by 5 * 1633 - 87 * 87 = 596
        dueGrowth("rising", p, 21, 149);
    }

    /** 17: "over all days": thirty of them, the first and the last too. */
    private static void growthOfAllThirtyDays() {
        PictureChange p = painted("##..", "....", "....", "....");
        for (int day = 0; day < 29; day++) {
            p.day(day);
        }
        p.run();
        p.day(29);
        // Days 0 .. 29, the last one with 2: 30 * 58 - 435 * 2 = 870 by 30 * 8555 - 435 * 435 = 67425
        dueGrowth("the last of thirty", p, 2, 155);
        PictureChange q = painted("##..", "....", "....", "....");
        q.run();
        q.day(0);
        q.floor(255);
        q.run();
        for (int day = 1; day < 30; day++) {
            q.day(day);
        }
        dueGrowth("the first of thirty", q, -2, 155);
        due("17: refused", () -> q.day(30), STATE);
        dueGrowth("a refused day bears on nothing", q, -2, 155);
    }

    /** 17: sums far beyond an int: 480 marked cells, and the latest days that there are. */
    private static void growthOfTheGreatestSums() {
        long[] days = new long[30];
        for (int k = 0; k < 30; k++) {
            days[k] = k < 15 ? k : 9971 + k;
        }
        BigInteger[] want = slopeWhenTheLastIsMarked(days, 480);
        for (int part = 0; part < 2; part++) {
            int asked = part;
            // Its 512 calls are just enough for one question.
            PictureChange p = new PictureChange(20, 24);
            for (int k = 0; k < 29; k++) {
                p.day((int) days[k]);
            }
            for (int place = 0; place < 480; place++) {
                p.cell(true, place % 20, place / 20, 11);
            }
            p.run();
            due("17: thirty days", () -> p.day(10000), 30);
            due("17: the greatest sums, part " + part, () -> p.growth(asked), want[part].toString());
        }
    }

    private static BigInteger[] slopeWhenTheLastIsMarked(long[] days, long marked) {
        long sum = 0;
        long squares = 0;
        for (long day : days) {
            sum += day;
            squares += day * day;
        }
        long last = days[days.length - 1];
        BigInteger above = BigInteger.valueOf(days.length * last * marked - sum * marked);
        BigInteger below = BigInteger.valueOf(days.length * squares - sum * sum);
        BigInteger common = above.gcd(below);
        return new BigInteger[] {above.divide(common), below.divide(common)};
    }

    /** 18: "0 the width, 1 the height, 2 charts, 3 spots, 4 marked cells, 5 days, 6 repeats." */
    private static void countTellsEachOfSeven() {
        PictureChange p = painted("##...#", "......", "......", "......", "###...");
        int[] want = {6, 5, 0, 0, 0, 0, 0};
        dueCounts("before anything", p, want);
        p.chart(0, 0, true);
        want[2] = 1;
        dueCounts("a chart", p, want);
        p.run();
        want[3] = 3;
        want[4] = 6;
        dueCounts("a run", p, want);
        p.day(0);
        p.day(1);
        want[5] = 2;
        dueCounts("days", p, want);
        for (int k = 0; k < 7; k++) {
            p.repeat(5, 4, k);
        }
        want[6] = 7;
        dueCounts("repeats", p, want);
        p.chart(0, 0, false);
        want[2] = 0;
        dueCounts("no chart", p, want);
        p.floor(255);
        p.run();
        want[3] = 0;
        want[4] = 0;
        dueCounts("a run that finds none", p, want);
    }

    private static void dueCounts(String name, PictureChange p, int[] want) {
        for (int what = 0; what < 7; what++) {
            int asked = what;
            due("18: " + name + ", " + what, () -> p.count(asked), want[what]);
        }
        due("18: -1", () -> p.count(-1), INDEX);
        due("18: 7", () -> p.count(7), INDEX);
    }
}
