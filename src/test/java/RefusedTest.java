import java.util.ArrayList;
import java.util.List;

/**
 * "EXCEPTIONS: IndexOutOfBoundsException: there is no such cell, spot, axis, what. IllegalArgumentException, then
 * IllegalStateException, as told. Such a call changes nothing."
 *
 * Each call that is refused is made on one of two twins; all that they tell from then on must be the same.
 */
public final class RefusedTest extends Checks {
    private static final int WIDTH = 5;
    private static final int HEIGHT = 4;
    private static final int LATEST_DAY = 7;
    private static final int SPOTS = used().count(3);

    private interface Asked {
        long on(PictureChange p);
    }

    private interface AtCell {
        long on(PictureChange p, int x, int y);
    }

    private interface With {
        long on(PictureChange p, int v);
    }

    public static void main(String[] args) {
        theTwinsHaveSomethingToLose();
        noSuchCell();
        noSuchValue();
        cellComesBeforeValue();
        noSuchMost();
        noSuchPart();
        noSuchSpot();
        noSuchDay();
        noThirteenthChart();
        noDayBeyondThirty();
        whatTellsOnlyChangesNothing();
        finish();
    }

    /** One with something of everything, and with marks and spots that are no longer as they were looked for. */
    private static PictureChange used() {
        PictureChange p = textured(WIDTH, HEIGHT, 1, 0);
        p.register(1);
        p.chart(0, 1, true);
        p.chart(2, 2, true);
        p.cell(true, 1, 1, 50);
        p.floor(60);
        p.repeat(1, 3, 120);
        p.run();
        p.day(3);
        p.repeat(1, 3, 30);
        p.repeat(3, 2, 255);
        p.floor(4);
        p.run();
        p.day(LATEST_DAY);
        p.cell(false, 2, 0, 1);
        p.floor(3);
        return p;
    }

    /** The same with twelve charts and thirty days, so that there is no room for one more. */
    private static PictureChange full() {
        PictureChange p = used();
        for (int k = 0; k < 10; k++) {
            p.chart(k % WIDTH, k < WIDTH ? 0 : 3, true);
        }
        for (int day = LATEST_DAY + 1; day <= LATEST_DAY + 28; day++) {
            p.day(day);
        }
        return p;
    }

    private static void theTwinsHaveSomethingToLose() {
        PictureChange p = used();
        due("twin: across", () -> p.shift(0), 1);
        due("twin: charts", () -> p.count(2), 2);
        due("twin: spots", () -> bit(SPOTS > 1), 1);
        due("twin: days", () -> p.count(5), 2);
        due("twin: repeats", () -> p.count(6), 3);
        due("twin: false ones", () -> bit(p.falseOnes() > 0), 1);
        due("twin: gain is not whole", () -> bit(p.gain(1) > 1), 1);
        due("twin: growth", () -> bit(p.growth(0) != 0), 1);
        due("twin: the marks are not those of now", () -> bit(p.count(4) == markedNow(used())), 0);
        PictureChange q = full();
        due("twin: twelve charts", () -> q.count(2), 12);
        due("twin: thirty days", () -> q.count(5), 30);
    }

    private static int markedNow(PictureChange p) {
        p.run();
        return p.count(4);
    }

    private static void noSuchCell() {
        AtCell[] calls = {
            (p, x, y) -> p.cell(false, x, y, 9),
            (p, x, y) -> p.cell(true, x, y, 9),
            (p, x, y) -> bit(p.chart(x, y, true)),
            (p, x, y) -> bit(p.chart(x, y, false)),
            (p, x, y) -> p.repeat(x, y, 9),
            (p, x, y) -> p.bound(x, y),
            (p, x, y) -> p.change(x, y),
            (p, x, y) -> p.map(x, y),
        };
        String[] names = {"cell, former", "cell, later", "chart on", "chart off", "repeat", "bound", "change", "map"};
        int[][] places = {
            {-1, 0}, {WIDTH, 0}, {0, -1}, {0, HEIGHT}, {-1, HEIGHT - 1}, {WIDTH, HEIGHT - 1}, {WIDTH - 1, -1},
            {WIDTH - 1, HEIGHT}, {-1, 1}, {WIDTH, 2}, {LOWEST, 0}, {HIGHEST, 0}, {0, LOWEST}, {0, HIGHEST},
            {HIGHEST, HIGHEST}, {LOWEST, LOWEST}, {-WIDTH, 1}, {1 << 30, 1 << 30}, {0, 1 << 30},
        };
        for (int k = 0; k < calls.length; k++) {
            AtCell call = calls[k];
            for (int[] at : places) {
                String name = names[k] + " at " + at[0] + ", " + at[1];
                refused(name, p -> call.on(p, at[0], at[1]), INDEX);
            }
            for (int[] at : new int[][] {{0, 0}, {WIDTH - 1, 0}, {0, HEIGHT - 1}, {WIDTH - 1, HEIGHT - 1}}) {
                PictureChange p = used();
                due(names[k] + " has the cell", () -> bit(call.on(p, at[0], at[1]) >= NONE), 1);
            }
        }
    }

    private static void noSuchValue() {
        With[] calls = {
            (p, v) -> p.cell(false, 4, 3, v),
            (p, v) -> p.cell(true, 4, 3, v),
            (p, v) -> p.repeat(4, 3, v),
            (p, v) -> p.floor(v),
        };
        String[] names = {"cell, former", "cell, later", "repeat", "floor"};
        for (int k = 0; k < calls.length; k++) {
            With call = calls[k];
            for (int v : new int[] {-1, 256, LOWEST, HIGHEST, -255, 512}) {
                refused(names[k] + " " + v, p -> call.on(p, v), ARGUMENT);
            }
            for (int v : new int[] {0, 255}) {
                PictureChange p = used();
                due(names[k] + " " + v + " is allowed", () -> bit(call.on(p, v) >= 0), 1);
            }
        }
    }

    private static void cellComesBeforeValue() {
        for (int v : new int[] {-1, 256}) {
            for (int[] at : new int[][] {{-1, 0}, {WIDTH, 0}, {0, -1}, {0, HEIGHT}}) {
                refused("cell, former, both wrong", p -> p.cell(false, at[0], at[1], v), INDEX);
                refused("cell, later, both wrong", p -> p.cell(true, at[0], at[1], v), INDEX);
                refused("repeat, both wrong", p -> p.repeat(at[0], at[1], v), INDEX);
            }
        }
    }

    private static void noSuchMost() {
        for (int most : new int[] {-1, 4, LOWEST, HIGHEST, -3}) {
            refused("register " + most, p -> p.register(most), ARGUMENT);
        }
    }

    private static void noSuchPart() {
        for (int part : new int[] {-1, 2, LOWEST, HIGHEST}) {
            refused("shift " + part, p -> p.shift(part), INDEX);
            refused("gain " + part, p -> p.gain(part), INDEX);
            refused("growth " + part, p -> p.growth(part), INDEX);
        }
        for (int what : new int[] {-1, 7, LOWEST, HIGHEST}) {
            refused("count " + what, p -> p.count(what), INDEX);
            refused("spot 0, " + what, p -> p.spot(0, what), INDEX);
        }
    }

    private static void noSuchSpot() {
        for (int k : new int[] {-1, SPOTS, LOWEST, HIGHEST}) {
            refused("spot " + k, p -> p.spot(k, 0), INDEX);
            refused("spot " + k + ", wrong what", p -> p.spot(k, 7), INDEX);
        }
        for (int after : new int[] {-2, SPOTS, LOWEST, HIGHEST}) {
            refused("alarm " + after, p -> p.alarm(after, 0, 0), INDEX);
            refused("alarm " + after + ", never reached", p -> p.alarm(after, HIGHEST, HIGHEST), INDEX);
        }
    }

    private static void noSuchDay() {
        for (int day : new int[] {-1, 0, LATEST_DAY - 1, LATEST_DAY, 10001, LOWEST, HIGHEST}) {
            refused("day " + day, p -> p.day(day), ARGUMENT);
        }
    }

    private static void noThirteenthChart() {
        refusedWhenFull("a thirteenth chart", p -> bit(p.chart(4, 2, true)), STATE);
        refusedWhenFull("a thirteenth chart at no cell", p -> bit(p.chart(5, 2, true)), INDEX);
        refusedWhenFull("one of the twelve", p -> bit(p.chart(2, 2, true)), "0");
        refusedWhenFull("off, what is none", p -> bit(p.chart(4, 2, false)), "0");
    }

    private static void noDayBeyondThirty() {
        int latest = LATEST_DAY + 28;
        refusedWhenFull("a day more", p -> p.day(latest + 1), STATE);
        refusedWhenFull("the last day", p -> p.day(10000), STATE);
        refusedWhenFull("beyond the last day", p -> p.day(10001), ARGUMENT);
        refusedWhenFull("the latest day", p -> p.day(latest), ARGUMENT);
        refusedWhenFull("below 0", p -> p.day(-1), ARGUMENT);
    }

    private static void whatTellsOnlyChangesNothing() {
        Asked[] calls = {
            p -> p.shift(0), p -> p.gain(0), p -> p.bound(1, 3), p -> p.change(0, 1), p -> p.spot(0, 6),
            p -> p.map(0, 0), p -> p.alarm(NONE, 0, 0), p -> p.falseOnes(), p -> p.growth(1), p -> p.count(0),
        };
        for (int k = 0; k < calls.length; k++) {
            dueAlike("what tells only, " + k, used(), used(), calls[k]);
        }
    }

    private static void refused(String name, Asked call, String want) {
        due(name, () -> call.on(used()), want);
        dueAlike(name, used(), used(), call);
    }

    private static void refusedWhenFull(String name, Asked call, String want) {
        due(name, () -> call.on(full()), want);
        dueAlike(name, full(), full(), call);
    }

    private static void dueAlike(String name, PictureChange p, PictureChange twin, Asked call) {
        answerOf(() -> call.on(p));
        List<String> got = allTold(p);
        List<String> want = allTold(twin);
        due(name + " changes nothing", () -> bit(got.equals(want)), 1);
    }

    /** All that can be asked, and then the calls that tell what was there by changing it. */
    private static List<String> allTold(PictureChange p) {
        List<String> told = new ArrayList<>();
        for (int what = 0; what < 7; what++) {
            int asked = what;
            told.add(answerOf(() -> p.count(asked)));
        }
        for (int part = 0; part < 2; part++) {
            int asked = part;
            told.add(answerOf(() -> p.shift(asked)));
            told.add(answerOf(() -> p.gain(asked)));
            told.add(answerOf(() -> p.growth(asked)));
        }
        told.add(answerOf(() -> p.falseOnes()));
        for (int place = 0; place < SPOTS * 7; place++) {
            int k = place / 7;
            int what = place % 7;
            told.add(answerOf(() -> p.spot(k, what)));
        }
        for (int place = 0; place < WIDTH * HEIGHT; place++) {
            int x = place % WIDTH;
            int y = place / WIDTH;
            told.add(answerOf(() -> p.map(x, y)));
            told.add(answerOf(() -> p.change(x, y)));
        }
        tellByChanging(p, told);
        return told;
    }

    private static void tellByChanging(PictureChange p, List<String> told) {
        for (int day = 0; day <= LATEST_DAY + 30; day++) {
            int asked = day;
            told.add(answerOf(() -> p.day(asked)));
        }
        told.add(answerOf(() -> p.growth(0)));
        told.add(answerOf(() -> p.floor(0)));
        for (int place = 0; place < WIDTH * HEIGHT; place++) {
            int x = place % WIDTH;
            int y = place / WIDTH;
            told.add(answerOf(() -> bit(p.chart(x, y, false))));
            told.add(answerOf(() -> p.cell(true, x, y, 0)));
            // By the least and the greatest former value the bound tells the greatest and the least repeat.
            told.add(answerOf(() -> p.cell(false, x, y, 0)));
            told.add(answerOf(() -> p.bound(x, y)));
            told.add(answerOf(() -> p.cell(false, x, y, 255)));
            told.add(answerOf(() -> p.bound(x, y)));
        }
    }
}
