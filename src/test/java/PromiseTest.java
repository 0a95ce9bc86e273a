/** Each promise by hand-made runs: ordinary inputs, the edges that the document names, and wrong inputs. */
public final class PromiseTest extends Checks {
    public static void main(String[] args) {
        newObject();
        cell();
        registerFinds();
        registerBreaksTies();
        registerRefuses();
        shift();
        chart();
        chartsAreTwelve();
        gain();
        gainOverOneOfTheLater();
        repeat();
        floor();
        bound();
        change();
        changeRounds();
        run();
        spot();
        cracks();
        crackOfAllCells();
        told();
        map();
        alarm();
        falseOnes();
        day();
        daysAreThirty();
        growth();
        growthOfLargeSums();
        count();
        finish();
    }

    private static void newObject() {
        int[][] sides = {{4, 4}, {24, 24}, {3, 25}, {0, 100}, {-5, 7}, {LOWEST, HIGHEST}, {5, 23}};
        int[][] held = {{4, 4}, {24, 24}, {4, 24}, {4, 24}, {4, 7}, {4, 24}, {5, 23}};
        for (int k = 0; k < sides.length; k++) {
            PictureChange p = new PictureChange(sides[k][0], sides[k][1]);
            int width = held[k][0];
            int height = held[k][1];
            due("1: width", () -> p.count(0), width);
            due("1: height", () -> p.count(1), height);
            for (int what = 2; what <= 6; what++) {
                int asked = what;
                due("1: count " + what, () -> p.count(asked), 0);
            }
            due("1: last cell", () -> p.cell(true, width - 1, height - 1, 9), 0);
            due("1: beyond the width", () -> p.cell(true, width, 0, 9), INDEX);
            due("1: beyond the height", () -> p.cell(true, 0, height, 9), INDEX);
            due("1: gain", () -> p.gain(0), 1);
            due("1: gain", () -> p.gain(1), 1);
            due("1: shift", () -> p.shift(0), 0);
            due("1: shift", () -> p.shift(1), 0);
            due("1: no spot", () -> p.spot(0, 0), INDEX);
            due("1: map", () -> p.map(0, 0), NONE);
            due("1: false ones", () -> p.falseOnes(), 0);
            due("1: growth", () -> p.growth(1), 1);
            due("1: bound", () -> p.bound(0, 0), 10);
        }
        due("1: NONE", () -> PictureChange.NONE, -1);
    }

    private static void cell() {
        PictureChange p = new PictureChange(5, 4);
        due("2: first value", () -> p.cell(false, 4, 3, 255), 0);
        due("2: what it was", () -> p.cell(false, 4, 3, 7), 255);
        due("2: the later one is another", () -> p.cell(true, 4, 3, 0), 0);
        due("2: the former one stays", () -> p.cell(false, 4, 3, 8), 7);
        due("2: the place above is another", () -> p.cell(false, 3, 2, 5), 0);
        due("2: turned about", () -> p.cell(false, 3, 3, 5), 0);
        due("2: x below", () -> p.cell(false, -1, 0, 1), INDEX);
        due("2: x above", () -> p.cell(false, 5, 0, 1), INDEX);
        due("2: y below", () -> p.cell(true, 0, -1, 1), INDEX);
        due("2: y above", () -> p.cell(true, 0, 4, 1), INDEX);
        due("2: farthest", () -> p.cell(true, HIGHEST, LOWEST, 1), INDEX);
        due("2: v below", () -> p.cell(false, 4, 3, -1), ARGUMENT);
        due("2: v above", () -> p.cell(true, 0, 0, 256), ARGUMENT);
        due("2: both wrong", () -> p.cell(false, 5, 0, 256), INDEX);
        due("2: a refused call changes nothing", () -> p.cell(false, 4, 3, 9), 8);
        due("2: a refused call changes nothing", () -> p.cell(true, 0, 0, 9), 0);
    }

    private static void registerFinds() {
        PictureChange p = textured(6, 5, -3, 2);
        p.cell(true, 1, 3, texture(4, 1) + 4);
        p.cell(true, 2, 4, texture(5, 2) - 3);
        due("3: most 0 stays", () -> p.register(0) > 7 ? 1 : 0, 1);
        due("3: most 0 stays", () -> p.shift(0), 0);
        due("3: most 0 stays", () -> p.shift(1), 0);
        due("3: most 3", () -> p.register(3), 7);
        due("3: left", () -> p.shift(0), -3);
        due("3: down", () -> p.shift(1), 2);
        due("3: most 2 cannot reach it", () -> p.register(2) > 7 ? 1 : 0, 1);
        due("3: most 2 stays near", () -> Math.abs(p.shift(0)) <= 2 ? 1 : 0, 1);
        p.cell(true, 3, 3, 255);
        due("3: a later cell under none counts nothing", () -> p.register(3), 7);

        PictureChange q = new PictureChange(4, 4);
        for (int y = 0; y < 4; y++) {
            for (int x = 0; x < 4; x++) {
                q.cell(true, x, y, 1);
            }
        }
        due("3: a lesser sum of fewer cells is no lesser miss", () -> q.register(1), 16);
        due("3: a lesser sum of fewer cells is no lesser miss", () -> q.shift(0), 0);
        q.cell(true, 3, 0, 2);
        due("3: 12 / 12 is less than 17 / 16", () -> q.register(1), 12);
        due("3: 12 / 12 is less than 17 / 16", () -> q.shift(0), -1);
        due("3: 12 / 12 is less than 17 / 16", () -> q.shift(1), 0);
    }

    /** Five by five cells of which the later ones lie at a shift, registered. */
    private static PictureChange texturedAt(int across, int down) {
        PictureChange p = textured(5, 5, across, down);
        due("3: textured", () -> p.register(3), 0);
        due("4: textured, across", () -> p.shift(0), across);
        due("4: textured, down", () -> p.shift(1), down);
        return p;
    }

    private static void registerBreaksTies() {
        PictureChange even = new PictureChange(4, 4);
        due("3: all alike", () -> even.register(3), 0);
        due("3: all alike", () -> even.shift(0), 0);
        due("3: all alike", () -> even.shift(1), 0);

        // Only one later cell differs, in a corner: every shift that leaves it bare is alike.
        PictureChange corner = new PictureChange(4, 4);
        corner.cell(true, 0, 0, 50);
        due("3: near ones first", () -> corner.register(3), 0);
        due("3: the lesser across", () -> corner.shift(0), 0);
        due("3: the down that is left", () -> corner.shift(1), 1);

        PictureChange far = new PictureChange(4, 4);
        far.cell(true, 3, 3, 50);
        due("3: the lesser across first", () -> far.register(3), 0);
        due("3: the lesser across first", () -> far.shift(0), -1);
        due("3: then the lesser down", () -> far.shift(1), 0);

        // A middle column differs: only shifts by the same distance left and right ease it alike.
        PictureChange column = new PictureChange(4, 4);
        for (int y = 0; y < 4; y++) {
            column.cell(false, 1, y, 100);
            column.cell(false, 3, y, 100);
            column.cell(true, 0, y, 100);
            column.cell(true, 2, y, 100);
        }
        due("3: left before right", () -> column.register(3), 0);
        due("3: left before right", () -> column.shift(0), -1);
        due("3: left before right", () -> column.shift(1), 0);

        PictureChange row = new PictureChange(4, 4);
        for (int x = 0; x < 4; x++) {
            row.cell(false, x, 1, 100);
            row.cell(false, x, 3, 100);
            row.cell(true, x, 0, 100);
            row.cell(true, x, 2, 100);
        }
        due("3: up before down", () -> row.register(3), 0);
        due("3: up before down", () -> row.shift(0), 0);
        due("3: up before down", () -> row.shift(1), -1);
    }

    private static void registerRefuses() {
        PictureChange p = new PictureChange(4, 4);
        p.cell(true, 0, 0, 50);
        p.register(1);
        for (int most : new int[] {-1, 4, LOWEST, HIGHEST}) {
            due("3: most " + most, () -> p.register(most), ARGUMENT);
        }
        due("3: a refused call changes nothing", () -> p.shift(1), 1);
        p.cell(true, 0, 0, 0);
        due("4: it stays until it is registered anew", () -> p.shift(1), 1);
        p.register(0);
        due("3: anew", () -> p.shift(1), 0);
    }

    private static void shift() {
        PictureChange p = new PictureChange(4, 4);
        p.cell(false, 2, 1, 90);
        p.cell(true, 3, 0, 90);
        p.cell(false, 1, 1, 60);
        p.cell(true, 2, 0, 60);
        due("4: sum", () -> p.register(2), 0);
        due("4: across", () -> p.shift(0), 1);
        due("4: down", () -> p.shift(1), -1);
        for (int axis : new int[] {-1, 2, LOWEST, HIGHEST}) {
            due("4: axis " + axis, () -> p.shift(axis), INDEX);
        }
    }

    private static void chart() {
        PictureChange p = new PictureChange(4, 5);
        due("5: off at first", () -> bit(p.chart(3, 4, false)), 0);
        due("5: on", () -> bit(p.chart(3, 4, true)), 1);
        due("5: on again", () -> bit(p.chart(3, 4, true)), 0);
        due("5: how many", () -> p.count(2), 1);
        due("5: another", () -> bit(p.chart(0, 0, true)), 1);
        due("5: off", () -> bit(p.chart(3, 4, false)), 1);
        due("5: off again", () -> bit(p.chart(3, 4, false)), 0);
        due("5: the other stays", () -> bit(p.chart(0, 0, true)), 0);
        due("5: how many", () -> p.count(2), 1);
        int[][] none = {{-1, 0}, {4, 0}, {0, -1}, {0, 5}};
        for (int[] at : none) {
            due("5: no cell, on", () -> bit(p.chart(at[0], at[1], true)), INDEX);
            due("5: no cell, off", () -> bit(p.chart(at[0], at[1], false)), INDEX);
        }
        due("5: a refused call changes nothing", () -> p.count(2), 1);
    }

    private static void chartsAreTwelve() {
        PictureChange p = new PictureChange(4, 4);
        for (int k = 0; k < 12; k++) {
            int x = k % 4;
            int y = k / 4;
            due("5: chart " + k, () -> bit(p.chart(x, y, true)), 1);
        }
        due("5: a thirteenth", () -> bit(p.chart(0, 3, true)), STATE);
        due("5: no cell comes first", () -> bit(p.chart(0, 4, true)), INDEX);
        due("5: one of the twelve", () -> bit(p.chart(1, 1, true)), 0);
        due("5: off, what is none", () -> bit(p.chart(0, 3, false)), 0);
        due("5: how many", () -> p.count(2), 12);
        due("5: off", () -> bit(p.chart(1, 1, false)), 1);
        due("5: room again", () -> bit(p.chart(0, 3, true)), 1);
        due("5: full again", () -> bit(p.chart(1, 1, true)), STATE);
        due("5: the others stay", () -> bit(p.chart(3, 2, true)), 0);
    }

    private static void gain() {
        PictureChange p = new PictureChange(4, 4);
        p.chart(0, 0, true);
        p.chart(1, 0, true);
        p.cell(false, 0, 0, 30);
        p.cell(true, 0, 0, 20);
        p.cell(false, 1, 0, 10);
        p.cell(true, 1, 0, 40);
        // (30 * 20 + 10 * 40) / (20 * 20 + 40 * 40) = 1000 / 2000
        due("6: above", () -> p.gain(0), 1);
        due("6: below", () -> p.gain(1), 2);
        p.chart(1, 0, false);
        due("6: one chart less, above", () -> p.gain(0), 3);
        due("6: one chart less, below", () -> p.gain(1), 2);
        p.cell(false, 0, 0, 0);
        due("6: products of 0, above", () -> p.gain(0), 1);
        due("6: products of 0, below", () -> p.gain(1), 1);
        p.cell(false, 0, 0, 30);
        p.cell(true, 0, 0, 0);
        due("6: squares of 0, above", () -> p.gain(0), 1);
        due("6: squares of 0, below", () -> p.gain(1), 1);
        for (int part : new int[] {-1, 2, LOWEST, HIGHEST}) {
            due("6: part " + part, () -> p.gain(part), INDEX);
        }
    }

    private static void gainOverOneOfTheLater() {
        PictureChange p = new PictureChange(4, 4);
        int[][] former = {{100, 60, 20, 240}, {0, 0, 0, 0}, {90, 30, 60, 10}, {10, 0, 0, 0}};
        for (int y = 0; y < 4; y++) {
            for (int x = 0; x < 4; x++) {
                p.cell(false, x, y, former[y][x]);
                if (x < 3) {
                    p.cell(true, x + 1, y, former[y][x]);
                }
            }
        }
        due("6: sum", () -> p.register(1), 0);
        due("6: shifted", () -> p.shift(0), 1);
        p.chart(3, 0, true);
        p.cell(true, 0, 1, 80);
        due("6: a chart that lies on none", () -> p.gain(0), 1);
        p.chart(0, 0, true);
        p.cell(true, 1, 0, 50);
        due("6: the chart's cell at the shift, above", () -> p.gain(0), 2);
        due("6: the chart's cell at the shift, below", () -> p.gain(1), 1);

        PictureChange both = texturedAt(1, 2);
        both.chart(0, 0, true);
        both.cell(false, 0, 0, 60);
        both.cell(true, 1, 2, 80);
        due("6: across and down, above", () -> both.gain(0), 3);
        due("6: across and down, below", () -> both.gain(1), 4);
        both.cell(true, 4, 4, 100);
        both.cell(false, 3, 2, 5);
        due("10: across and down", () -> both.change(3, 2), 70);
        due("10: below the later one", () -> both.change(0, 3), 0);

        PictureChange full = new PictureChange(24, 24);
        for (int k = 0; k < 12; k++) {
            full.cell(false, k, 23, 254);
            full.cell(true, k, 23, 255);
            full.chart(k, 23, true);
        }
        due("6: twelve bright ones, above", () -> full.gain(0), 254);
        due("6: twelve bright ones, below", () -> full.gain(1), 255);
    }

    private static void repeat() {
        PictureChange p = new PictureChange(4, 4);
        p.cell(false, 2, 1, 100);
        due("7: like the former", () -> p.repeat(2, 1, 100), 10);
        due("7: above", () -> p.repeat(2, 1, 107), 17);
        due("7: below, further", () -> p.repeat(2, 1, 92), 18);
        due("7: nearer", () -> p.repeat(2, 1, 103), 18);
        due("7: another cell", () -> p.repeat(1, 2, 255), 265);
        due("7: a value of 0", () -> p.repeat(2, 1, 0), 110);
        due("7: how many", () -> p.count(6), 6);
        due("7: no cell", () -> p.repeat(4, 0, 0), INDEX);
        due("7: no cell", () -> p.repeat(0, 4, 0), INDEX);
        due("7: no cell", () -> p.repeat(-1, 0, 0), INDEX);
        due("7: no cell", () -> p.repeat(0, -1, 0), INDEX);
        due("7: v below", () -> p.repeat(0, 0, -1), ARGUMENT);
        due("7: v above", () -> p.repeat(0, 0, 256), ARGUMENT);
        due("7: both wrong", () -> p.repeat(4, 0, 256), INDEX);
        due("7: a refused call changes nothing", () -> p.count(6), 6);
        due("7: a refused call changes nothing", () -> p.bound(0, 0), 10);
    }

    private static void floor() {
        PictureChange p = new PictureChange(4, 4);
        due("8: at first", () -> p.floor(0), 10);
        due("8: what it was", () -> p.floor(255), 0);
        due("8: what it was", () -> p.floor(33), 255);
        due("8: below", () -> p.floor(-1), ARGUMENT);
        due("8: above", () -> p.floor(256), ARGUMENT);
        due("8: a refused call changes nothing", () -> p.bound(3, 3), 33);
        due("8: what it was", () -> p.floor(1), 33);
    }

    private static void bound() {
        PictureChange p = new PictureChange(4, 6);
        due("9: no repeat", () -> p.bound(3, 5), 10);
        p.cell(false, 0, 0, 200);
        due("9: no repeat, whatever the value", () -> p.bound(0, 0), 10);
        p.cell(false, 3, 5, 50);
        p.repeat(3, 5, 40);
        p.repeat(3, 5, 55);
        due("9: the greatest", () -> p.bound(3, 5), 20);
        p.cell(false, 3, 5, 42);
        due("9: by the former value now", () -> p.bound(3, 5), 23);
        p.floor(1);
        due("9: by the floor now", () -> p.bound(3, 5), 14);
        p.cell(true, 3, 5, 200);
        due("9: the later one bears on nothing", () -> p.bound(3, 5), 14);
        due("9: the floor alone", () -> p.bound(2, 5), 1);
        int[][] none = {{-1, 0}, {4, 0}, {0, -1}, {0, 6}};
        for (int[] at : none) {
            due("9: no cell", () -> p.bound(at[0], at[1]), INDEX);
        }
    }

    private static void change() {
        PictureChange p = new PictureChange(5, 4);
        p.cell(false, 1, 1, 90);
        due("10: former above", () -> p.change(1, 1), 90);
        p.cell(true, 1, 1, 200);
        due("10: later above", () -> p.change(1, 1), 110);
        p.chart(0, 0, true);
        p.cell(false, 0, 0, 50);
        p.cell(true, 0, 0, 100);
        due("10: made even", () -> p.change(1, 1), 10);
        due("10: at the chart", () -> p.change(0, 0), 0);
        int[][] none = {{-1, 0}, {5, 0}, {0, -1}, {0, 4}};
        for (int[] at : none) {
            due("10: no cell", () -> p.change(at[0], at[1]), INDEX);
        }

        PictureChange q = new PictureChange(4, 4);
        int[][] former = {{0, 200, 30, 70}, {0, 90, 120, 0}, {0, 10, 0, 250}, {0, 0, 5, 60}};
        for (int y = 0; y < 4; y++) {
            for (int x = 1; x < 4; x++) {
                q.cell(false, x, y, former[y][x]);
                q.cell(true, x - 1, y, former[y][x]);
            }
        }
        q.cell(false, 0, 2, 77);
        due("10: sum", () -> q.register(1), 0);
        due("10: shifted left", () -> q.shift(0), -1);
        due("10: lies on none", () -> q.change(0, 2), 0);
        due("10: lies on its like", () -> q.change(3, 2), 0);
        q.cell(true, 2, 2, 240);
        due("10: by the cell at the shift", () -> q.change(3, 2), 10);
    }

    private static void changeRounds() {
        PictureChange p = new PictureChange(4, 4);
        p.chart(0, 0, true);
        p.cell(false, 0, 0, 3);
        p.cell(true, 0, 0, 4);
        // The gain is 3 / 4.
        int[] later = {1, 2, 3, 5, 6, 7};
        int[] evened = {1, 2, 2, 4, 5, 5};
        for (int k = 0; k < later.length; k++) {
            p.cell(true, 2, 2, later[k]);
            int want = evened[k];
            p.cell(false, 2, 2, 0);
            due("10: rounded, former 0, later " + later[k], () -> p.change(2, 2), want);
            p.cell(false, 2, 2, 100);
            due("10: rounded, former 100, later " + later[k], () -> p.change(2, 2), 100 - want);
        }

        PictureChange q = new PictureChange(4, 4);
        q.chart(0, 0, true);
        q.cell(false, 0, 0, 255);
        q.cell(true, 0, 0, 1);
        q.cell(true, 1, 0, 255);
        due("10: the greatest", () -> q.change(1, 0), 255 * 255);
    }

    private static void run() {
        PictureChange p = new PictureChange(4, 4);
        due("11: nothing", () -> p.run(), 0);
        p.cell(true, 1, 1, 10);
        due("11: at the bound", () -> p.run(), 0);
        p.cell(true, 1, 1, 11);
        due("11: above the bound", () -> p.run(), 1);
        due("11: marked", () -> p.count(4), 1);
        p.cell(true, 2, 2, 11);
        due("11: corners do not join", () -> p.run(), 2);
        p.cell(true, 2, 1, 11);
        due("11: sides join", () -> p.run(), 1);
        due("11: marked", () -> p.count(4), 3);
        p.repeat(2, 1, 1);
        due("11: a repeat raises the bound", () -> p.run(), 2);
        p.floor(11);
        due("11: the floor raises all", () -> p.run(), 0);
        due("11: marked", () -> p.count(4), 0);

        PictureChange ends = painted("#..#", "....", "....", "#...");
        due("11: row ends do not join", () -> ends.run(), 3);
        PictureChange wrap = painted("...#", "#...", "....", "....");
        due("11: one row's end and the next one's start", () -> wrap.run(), 2);

        PictureChange board = new PictureChange(24, 24);
        for (int y = 0; y < 24; y++) {
            for (int x = y % 2; x < 24; x += 2) {
                board.cell(true, x, y, 200);
            }
        }
        due("11: as many as can be", () -> board.run(), 288);
        due("11: the last of them", () -> board.map(23, 23), 287);
        due("11: the last of them", () -> board.spot(287, 5), 23);
    }

    private static void spot() {
        PictureChange p = painted(
                "......",
                "..##..",
                ".##...",
                "..#..#",
                "......");
        p.cell(true, 5, 3, 200);
        due("12: spots", () -> p.run(), 2);
        long[] first = {5, 500, 1, 1, 3, 3, -1};
        long[] second = {1, 200, 5, 3, 5, 3, -1};
        for (int what = 0; what < 7; what++) {
            int asked = what;
            due("12: spot 0, " + what, () -> p.spot(0, asked), first[what]);
            due("12: spot 1, " + what, () -> p.spot(1, asked), second[what]);
        }
        due("12: no spot", () -> p.spot(2, 0), INDEX);
        due("12: no spot", () -> p.spot(-1, 0), INDEX);
        due("12: no spot", () -> p.spot(HIGHEST, 0), INDEX);
        due("12: no what", () -> p.spot(0, 7), INDEX);
        due("12: no what", () -> p.spot(0, -1), INDEX);
        due("12: no what", () -> p.spot(1, LOWEST), INDEX);

        PictureChange corner = painted("#...", "....", "....", "....");
        corner.run();
        for (int what = 2; what < 6; what++) {
            int asked = what;
            due("12: the first cell's box, " + what, () -> corner.spot(0, asked), 0);
        }

        // The cell that comes first row by row is not the leftmost one.
        PictureChange order = painted(
                "...#",
                "#..#",
                "#...",
                "..#.");
        due("12: spots", () -> order.run(), 3);
        due("12: the first by rows", () -> order.spot(0, 2), 3);
        due("12: the second by rows", () -> order.spot(1, 2), 0);
        due("12: the third by rows", () -> order.spot(2, 3), 3);

        // Two arms that meet only below are one spot, numbered by the first arm.
        PictureChange arms = painted(
                "#.#.",
                "#.#.",
                "###.",
                "....");
        due("12: arms", () -> arms.run(), 1);
        due("12: arms", () -> arms.spot(0, 6), 6);
    }

    private static void cracks() {
        long none = NONE;
        dueLength("one cell", none, "....", ".#..", "....", "....");
        dueLength("two cells", none, "....", ".##.", "....", "....");
        dueLength("three in a row", 2, "....", ".###", "....", "....");
        dueLength("three in a column", 2, "...#", "...#", "...#", "....");
        dueLength("an angle", 2, "....", ".##.", ".#..", "....");
        dueLength("steps", 4, "##..", ".##.", "..#.", "....");
        dueLength("a block", none, "....", ".##.", ".##.", "....");
        dueLength("a ring", none, "###.", "#.#.", "###.", "....");
        dueLength("a fork", none, "###.", ".#..", "....", "....");
        dueLength("a cross", none, ".#..", "###.", ".#..", "....");
        dueLength("a ring with a tail", none, "###.", "#.##", "###.", "....");
        dueLength("a block with two tails", none, "....", "####", ".##.", "....");
        dueLength("a bend beside itself", 6, "###.", "..#.", "###.", "....");
        dueLength("a closed bend", none, "###.", "#.#.", "###.", "#...");
    }

    private static void dueLength(String name, long want, String... rows) {
        PictureChange p = painted(rows);
        due("12: " + name + " is one spot", () -> p.run(), 1);
        due("12: length of " + name, () -> p.spot(0, 6), want);
    }

    private static void crackOfAllCells() {
        // A spiral is the hardest one to join and the longest crack.
        PictureChange p = painted(
                "########",
                ".......#",
                "######.#",
                "#....#.#",
                "#.##.#.#",
                "#.#..#.#",
                "#.####.#",
                "#......#",
                "########");
        due("12: a spiral", () -> p.run(), 1);
        due("12: its cells", () -> p.spot(0, 0), p.count(4));
        due("12: its length", () -> p.spot(0, 6), p.count(4) - 1);
    }

    private static void told() {
        PictureChange p = painted("###.", "....", "...#", "....");
        p.run();
        p.cell(true, 1, 0, 0);
        p.cell(true, 3, 2, 255);
        p.floor(200);
        p.repeat(0, 0, 255);
        due("12: as it was when looked for", () -> p.spot(0, 0), 3);
        due("12: as it was when looked for", () -> p.spot(1, 1), 100);
        due("12: as it was when looked for", () -> p.spot(0, 6), 2);
        due("13: as it was when looked for", () -> p.map(1, 0), 0);
        due("14: as it was when looked for", () -> p.alarm(0, 99, 9), 1);
        due("18: as it was when looked for", () -> p.count(3), 2);
        due("18: as it was when looked for", () -> p.count(4), 4);
        due("11: looked for anew", () -> p.run(), 1);
        due("13: anew", () -> p.map(0, 0), -1);
        due("13: anew", () -> p.map(3, 2), 0);
        due("12: anew", () -> p.spot(1, 0), INDEX);
    }

    private static void map() {
        String[] rows = {"#.#..", "#...#", "..#.#", "###.."};
        String[] want = {"0.1..", "0...2", "..3.2", "333.."};
        PictureChange p = painted(rows);
        due("13: before run()", () -> p.map(0, 0), -1);
        p.run();
        for (int y = 0; y < 4; y++) {
            for (int x = 0; x < 5; x++) {
                int atX = x;
                int atY = y;
                char w = want[y].charAt(x);
                due("13: cell " + x + ", " + y, () -> p.map(atX, atY), w == '.' ? -1 : w - '0');
            }
        }
        int[][] none = {{-1, 0}, {5, 0}, {0, -1}, {0, 4}, {HIGHEST, 0}, {0, LOWEST}};
        for (int[] at : none) {
            due("13: no cell", () -> p.map(at[0], at[1]), INDEX);
        }
    }

    private static void alarm() {
        PictureChange p = painted(
                "#.##.",
                "..##.",
                ".....",
                "###..",
                "....#");
        int high = HIGHEST;
        due("14: before run()", () -> p.alarm(-1, 0, 0), -1);
        due("14: no spot before run()", () -> p.alarm(0, 0, 0), INDEX);
        due("14: spots", () -> p.run(), 4);
        due("14: any", () -> p.alarm(-1, 0, high), 0);
        due("14: behind the first", () -> p.alarm(0, 0, high), 1);
        due("14: behind the third", () -> p.alarm(2, 0, high), 3);
        due("14: behind the last", () -> p.alarm(3, 0, 0), -1);
        due("14: at the level is not above it", () -> p.alarm(-1, 100, high), 1);
        due("14: just above the level", () -> p.alarm(-1, 399, high), 1);
        due("14: at the highest sum", () -> p.alarm(-1, 400, high), -1);
        due("14: a crack of that length", () -> p.alarm(-1, high, 2), 2);
        due("14: a shorter crack", () -> p.alarm(-1, high, 3), -1);
        due("14: only cracks have lengths", () -> p.alarm(-1, high, LOWEST), 2);
        due("14: only cracks have lengths", () -> p.alarm(-1, high, -1), 2);
        due("14: behind the crack", () -> p.alarm(2, high, 0), -1);
        due("14: one or the other", () -> p.alarm(1, 350, 2), 2);
        due("14: a level below 0", () -> p.alarm(2, LOWEST, high), 3);
        due("14: below NONE", () -> p.alarm(-2, 0, 0), INDEX);
        due("14: no spot", () -> p.alarm(4, 0, 0), INDEX);
        due("14: no spot", () -> p.alarm(high, 0, 0), INDEX);
        due("14: no spot", () -> p.alarm(LOWEST, 0, 0), INDEX);
    }

    private static void falseOnes() {
        PictureChange p = new PictureChange(4, 4);
        p.cell(false, 0, 0, 100);
        p.repeat(0, 0, 110);
        p.repeat(0, 0, 90);
        due("15: at the floor", () -> p.falseOnes(), 0);
        p.repeat(0, 0, 111);
        due("15: above", () -> p.falseOnes(), 1);
        p.repeat(0, 0, 89);
        due("15: below", () -> p.falseOnes(), 2);
        p.repeat(0, 0, 111);
        due("15: each of all told ones", () -> p.falseOnes(), 3);
        p.cell(false, 0, 0, 111);
        due("15: the former value when they were told", () -> p.falseOnes(), 3);
        p.floor(0);
        due("15: the floor when they were told", () -> p.falseOnes(), 3);
        p.repeat(0, 0, 110);
        due("15: a lower floor", () -> p.falseOnes(), 4);
        due("15: refused", () -> p.repeat(0, 0, 256), ARGUMENT);
        due("15: refused ones do not count", () -> p.falseOnes(), 4);
    }

    private static void day() {
        PictureChange p = new PictureChange(4, 4);
        due("16: below 0", () -> p.day(-1), ARGUMENT);
        due("16: above 10000", () -> p.day(10001), ARGUMENT);
        due("16: the first", () -> p.day(0), 1);
        due("16: the same", () -> p.day(0), ARGUMENT);
        due("16: the next", () -> p.day(5), 2);
        due("16: an earlier one", () -> p.day(4), ARGUMENT);
        due("16: the last", () -> p.day(10000), 3);
        due("16: behind the last", () -> p.day(10001), ARGUMENT);
        due("16: the same", () -> p.day(10000), ARGUMENT);
        due("16: farthest", () -> p.day(LOWEST), ARGUMENT);
        due("16: a refused call changes nothing", () -> p.count(5), 3);

        PictureChange q = painted("##..", "....", "....", "....");
        q.day(1);
        due("16: marked cells without run()", () -> q.growth(0), 0);
        q.run();
        q.cell(true, 2, 0, 100);
        q.day(2);
        due("16: marked by the latest run()", () -> q.growth(0), 2);
        due("16: marked by the latest run()", () -> q.growth(1), 1);
    }

    private static void daysAreThirty() {
        PictureChange p = new PictureChange(4, 4);
        for (int k = 1; k <= 30; k++) {
            int day = 3 * k;
            due("16: day " + k, () -> p.day(day), k);
        }
        due("16: one more", () -> p.day(91), STATE);
        due("16: the argument comes first", () -> p.day(90), ARGUMENT);
        due("16: the argument comes first", () -> p.day(10001), ARGUMENT);
        due("16: a refused call changes nothing", () -> p.count(5), 30);
    }

    private static void growth() {
        PictureChange p = new PictureChange(4, 4);
        due("17: no day", () -> p.growth(0), 0);
        due("17: no day", () -> p.growth(1), 1);
        keep(p, 10, 6);
        due("17: one day", () -> p.growth(0), 0);
        due("17: one day", () -> p.growth(1), 1);
        keep(p, 14, 2);
        due("17: fewer", () -> p.growth(0), -1);
        due("17: fewer", () -> p.growth(1), 1);
        keep(p, 15, 5);
        // Days 10, 14, 15 less their middle 13, marks 6, 2, 5: (-18 + 2 + 10) / (9 + 1 + 4)
        due("17: three days", () -> p.growth(0), -3);
        due("17: three days, below", () -> p.growth(1), 7);
        keep(p, 26, 9);
        // 4 * 397 - 65 * 22 = 158 and 4 * 1197 - 65 * 65 = 563
        due("17: four days", () -> p.growth(0), 158);
        due("17: four days, below", () -> p.growth(1), 563);

        PictureChange falling = new PictureChange(4, 4);
        keep(falling, 1, 9);
        keep(falling, 2, 4);
        due("17: falling", () -> falling.growth(0), -5);
        due("17: falling, below", () -> falling.growth(1), 1);
        keep(falling, 4, 2);
        // 3 * 25 - 7 * 15 = -30 and 3 * 21 - 7 * 7 = 14
        due("17: falling", () -> falling.growth(0), -15);
        due("17: falling, below", () -> falling.growth(1), 7);
        keep(falling, 10, 0);
        // 4 * 25 - 17 * 15 = -155 and 4 * 121 - 17 * 17 = 195
        due("17: falling", () -> falling.growth(0), -31);
        due("17: falling, below", () -> falling.growth(1), 39);

        PictureChange even = new PictureChange(4, 4);
        keep(even, 0, 7);
        keep(even, 9, 7);
        due("17: no growth", () -> even.growth(0), 0);
        due("17: no growth, below", () -> even.growth(1), 1);
        for (int part : new int[] {-1, 2, LOWEST, HIGHEST}) {
            due("17: part " + part, () -> even.growth(part), INDEX);
        }
    }

    /** Keeps a day with so many marked cells. */
    private static void keep(PictureChange p, int day, int marked) {
        int width = p.count(0);
        int cells = width * p.count(1);
        for (int place = 0; place < cells; place++) {
            p.cell(true, place % width, place / width, place < marked ? 100 : 0);
        }
        p.run();
        p.day(day);
    }

    private static void growthOfLargeSums() {
        PictureChange p = new PictureChange(16, 16);
        for (int k = 0; k < 29; k++) {
            p.day(9950 + k);
        }
        keep(p, 10000, 256);
        // The sums by hand: in long arithmetic they go beyond an int's range.
        long days = 10000;
        long products = 10000L * 256;
        long squares = 10000L * 10000;
        for (long day = 9950; day < 9979; day++) {
            days += day;
            squares += day * day;
        }
        long above = 30 * products - days * 256;
        long below = 30 * squares - days * days;
        long common = java.math.BigInteger.valueOf(above).gcd(java.math.BigInteger.valueOf(below)).longValue();
        due("17: large sums", () -> p.growth(0), above / common);
        due("17: large sums, below", () -> p.growth(1), below / common);
    }

    private static void count() {
        PictureChange p = painted("##.#..", "......", "...#..", "......");
        p.chart(5, 3, true);
        p.chart(4, 3, true);
        p.chart(4, 3, false);
        p.run();
        p.day(2);
        p.day(4);
        p.repeat(0, 0, 0);
        p.repeat(0, 0, 0);
        p.repeat(1, 0, 0);
        long[] want = {6, 4, 1, 3, 4, 2, 3};
        for (int what = 0; what < 7; what++) {
            int asked = what;
            due("18: count " + what, () -> p.count(asked), want[what]);
        }
        for (int what : new int[] {-1, 7, LOWEST, HIGHEST}) {
            due("18: count " + what, () -> p.count(what), INDEX);
        }
    }
}
