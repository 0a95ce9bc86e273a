import java.math.BigInteger;
import java.util.ArrayList;
import java.util.List;
import java.util.Random;
import java.util.TreeSet;

/** Long runs of calls, compared with a second, slow writing of the document's terms. */
public final class ModelTest extends Checks {
    private static final int RUNS = 400;
    // An object is used for so many calls; what later ones answer is free.
    private static final int CALLS = 512;
    private static final int MOST_CALLS_AT_ONCE = 9;

    private static int calls = 0;

    public static void main(String[] args) {
        for (int run = 0; run < RUNS; run++) {
            // A seed of its own for each run: every run can be told and made again.
            play(run, new Random(run));
        }
        finish();
    }

    private static void play(int run, Random random) {
        int width = run % 7 == 0 ? random.nextInt(40) - 5 : 4 + random.nextInt(4);
        int height = run % 7 == 0 ? random.nextInt(40) - 5 : 4 + random.nextInt(4);
        PictureChange p = new PictureChange(width, height);
        Model m = new Model(width, height);
        // Few values give many ties and equal bounds; many values give odd fractions.
        int values = new int[] {2, 4, 30, 256}[run % 4];
        calls = 0;
        while (calls + MOST_CALLS_AT_ONCE <= CALLS) {
            one(run + "." + calls, random, values, p, m);
        }
    }

    private static int value(Random random, int values) {
        if (random.nextInt(60) == 0) {
            return random.nextBoolean() ? -1 : 256;
        }
        return random.nextInt(values) * (255 / (values - 1));
    }

    private static int about(Random random, int side) {
        if (random.nextInt(200) == 0) {
            return random.nextBoolean() ? LOWEST : HIGHEST;
        }
        return random.nextInt(60) == 0 ? random.nextInt(5) - 3 + side : random.nextInt(side);
    }

    private static void one(String name, Random random, int values, PictureChange p, Model m) {
        int x = about(random, m.width);
        int y = about(random, m.height);
        int v = value(random, values);
        int k = about(random, 9) - 2;
        boolean flag = random.nextBoolean();
        switch (random.nextInt(26)) {
            case 0 -> due(name + " register " + k, () -> p.register(k), () -> m.register(k));
            case 1 -> due(name + " shift " + k, () -> p.shift(k), () -> m.shift(k));
            case 2, 3 -> due(name + " chart", () -> p.chart(x, y, flag) ? 1 : 0, () -> m.chart(x, y, flag));
            case 4 -> due(name + " gain " + k, () -> p.gain(k), () -> m.gain(k));
            case 5, 6 -> due(name + " repeat", () -> p.repeat(x, y, v), () -> m.repeat(x, y, v));
            case 7 -> {
                int low = random.nextInt(4) == 0 ? v : random.nextInt(12);
                due(name + " floor", () -> p.floor(low), () -> m.floor(low));
            }
            case 8 -> due(name + " bound", () -> p.bound(x, y), () -> m.bound(x, y));
            case 9 -> due(name + " change", () -> p.change(x, y), () -> m.change(x, y));
            case 10, 11 -> due(name + " run", () -> p.run(), () -> m.run());
            case 12 -> wholeSpot(name, random.nextInt(m.spots.size() + 1), p, m);
            case 13 -> due(name + " map", () -> p.map(x, y), () -> m.map(x, y));
            case 14, 15 -> {
                int level = random.nextInt(1000) - 2;
                due(name + " alarm", () -> p.alarm(k, level, k), () -> m.alarm(k, level, k));
            }
            case 16 -> due(name + " falseOnes", () -> p.falseOnes(), () -> m.falseOnes());
            case 17 -> {
                int day = m.latest() + random.nextInt(400) - 20;
                due(name + " day " + day, () -> p.day(day), () -> m.day(day));
            }
            case 18 -> due(name + " growth " + k, () -> p.growth(k), () -> m.growth(k));
            case 19 -> due(name + " count " + k, () -> p.count(k), () -> m.count(k));
            default -> due(name + " cell", () -> p.cell(flag, x, y, v), () -> m.cell(flag, x, y, v));
        }
    }

    private static void wholeSpot(String name, int k, PictureChange p, Model m) {
        for (int what = -1; what <= 7; what++) {
            int asked = what;
            due(name + " spot " + k + ", " + asked, () -> p.spot(k, asked), () -> m.spot(k, asked));
        }
    }

    private static void due(String name, Call asked, Call model) {
        calls++;
        due("run " + name, asked, answerOf(model));
    }

    private static final class Model {
        private final int width;
        private final int height;
        private final int[][][] pictures;
        private final List<List<Integer>> repeats = new ArrayList<>();
        private final TreeSet<Integer> charts = new TreeSet<>();
        private final List<int[]> days = new ArrayList<>();
        private List<TreeSet<Integer>> spots = new ArrayList<>();
        private final int[] changes;
        private int across = 0;
        private int down = 0;
        private int floor = 10;
        private int told = 0;
        private int far = 0;

        Model(int width, int height) {
            this.width = Math.min(24, Math.max(4, width));
            this.height = Math.min(24, Math.max(4, height));
            pictures = new int[2][this.height][this.width];
            changes = new int[this.width * this.height];
            for (int place = 0; place < this.width * this.height; place++) {
                repeats.add(new ArrayList<>());
            }
        }

        private static void need(boolean holds, RuntimeException e) {
            if (!holds) {
                throw e;
            }
        }

        private boolean has(int x, int y) {
            return x >= 0 && y >= 0 && x < width && y < height;
        }

        private void needCell(int x, int y) {
            need(has(x, y), new IndexOutOfBoundsException());
        }

        private static void needIn(int v, int most) {
            need(v >= 0 && v <= most, new IllegalArgumentException());
        }

        private static void needOf(int v, int kinds) {
            need(v >= 0 && v < kinds, new IndexOutOfBoundsException());
        }

        long cell(boolean later, int x, int y, int v) {
            needCell(x, y);
            needIn(v, 255);
            int was = pictures[later ? 1 : 0][y][x];
            pictures[later ? 1 : 0][y][x] = v;
            return was;
        }

        private long[] missAt(int toRight, int toBottom) {
            long[] miss = new long[2];
            for (int place = 0; place < changes.length; place++) {
                int x = place % width;
                int y = place / width;
                if (has(x + toRight, y + toBottom)) {
                    miss[0] += Math.abs(pictures[0][y][x] - pictures[1][y + toBottom][x + toRight]);
                    miss[1]++;
                }
            }
            return miss;
        }

        long register(int most) {
            needIn(most, 3);
            List<int[]> shifts = new ArrayList<>();
            for (int a = -most; a <= most; a++) {
                for (int d = -most; d <= most; d++) {
                    shifts.add(new int[] {a, d});
                }
            }
            shifts.sort((one, other) -> {
                long[] m = missAt(one[0], one[1]);
                long[] n = missAt(other[0], other[1]);
                int order = Long.compare(m[0] * n[1], n[0] * m[1]);
                int near = Math.abs(one[0]) + Math.abs(one[1]) - Math.abs(other[0]) - Math.abs(other[1]);
                return order != 0 ? order : near != 0 ? near : one[0] != other[0] ? one[0] - other[0] : one[1] - other[1];
            });
            across = shifts.get(0)[0];
            down = shifts.get(0)[1];
            return missAt(across, down)[0];
        }

        long shift(int axis) {
            needOf(axis, 2);
            return axis == 0 ? across : down;
        }

        long chart(int x, int y, boolean on) {
            needCell(x, y);
            int place = y * width + x;
            need(!on || charts.contains(place) || charts.size() < 12, new IllegalStateException());
            return (on ? charts.add(place) : charts.remove(place)) ? 1 : 0;
        }

        private BigInteger[] fraction(long above, long below) {
            BigInteger a = BigInteger.valueOf(above);
            BigInteger b = BigInteger.valueOf(below);
            BigInteger common = a.gcd(b);
            return new BigInteger[] {a.divide(common), b.divide(common)};
        }

        long gain(int part) {
            needOf(part, 2);
            long products = 0;
            long squares = 0;
            for (int place : charts) {
                int x = place % width;
                int y = place / width;
                if (has(x + across, y + down)) {
                    long later = pictures[1][y + down][x + across];
                    products += later * pictures[0][y][x];
                    squares += later * later;
                }
            }
            return products == 0 || squares == 0 ? 1 : fraction(products, squares)[part].longValue();
        }

        long repeat(int x, int y, int v) {
            needCell(x, y);
            needIn(v, 255);
            repeats.get(y * width + x).add(v);
            told++;
            far += Math.abs(v - pictures[0][y][x]) > floor ? 1 : 0;
            return bound(x, y);
        }

        long floor(int v) {
            needIn(v, 255);
            int was = floor;
            floor = v;
            return was;
        }

        long bound(int x, int y) {
            needCell(x, y);
            int most = 0;
            for (int v : repeats.get(y * width + x)) {
                most = Math.max(most, Math.abs(v - pictures[0][y][x]));
            }
            return floor + most;
        }

        long change(int x, int y) {
            needCell(x, y);
            if (!has(x + across, y + down)) {
                return 0;
            }
            long twice = 2 * pictures[1][y + down][x + across] * gain(0);
            long evened = Math.floorDiv(twice + gain(1), 2 * gain(1));
            return Math.abs(pictures[0][y][x] - evened);
        }

        long run() {
            spots = new ArrayList<>();
            for (int place = 0; place < changes.length; place++) {
                changes[place] = (int) change(place % width, place / width);
                if (changes[place] > bound(place % width, place / width)) {
                    joinIn(place);
                }
            }
            spots.sort((one, other) -> one.first() - other.first());
            return spots.size();
        }

        /** Melts all spots that a new cell touches into one. */
        private void joinIn(int place) {
            TreeSet<Integer> melted = new TreeSet<>();
            melted.add(place);
            List<TreeSet<Integer>> others = new ArrayList<>();
            for (TreeSet<Integer> spot : spots) {
                if (neighbours(place, spot) > 0) {
                    melted.addAll(spot);
                } else {
                    others.add(spot);
                }
            }
            others.add(melted);
            spots = others;
        }

        private int neighbours(int place, TreeSet<Integer> spot) {
            int touching = 0;
            for (int other : spot) {
                int distance = Math.abs(other % width - place % width) + Math.abs(other / width - place / width);
                touching += distance == 1 ? 1 : 0;
            }
            return touching;
        }

        long spot(int k, int what) {
            needOf(k, spots.size());
            needOf(what, 7);
            TreeSet<Integer> spot = spots.get(k);
            return switch (what) {
                case 0 -> spot.size();
                case 1 -> spot.stream().mapToInt(place -> changes[place]).sum();
                case 2 -> spot.stream().mapToInt(place -> place % width).min().getAsInt();
                case 3 -> spot.first() / width;
                case 4 -> spot.stream().mapToInt(place -> place % width).max().getAsInt();
                case 5 -> spot.last() / width;
                default -> length(spot);
            };
        }

        private long length(TreeSet<Integer> spot) {
            boolean thin = spot.stream().allMatch(place -> neighbours(place, spot) <= 2);
            boolean twoEnds = spot.stream().filter(place -> neighbours(place, spot) == 1).count() == 2;
            return spot.size() >= 3 && thin && twoEnds ? spot.size() - 1 : -1;
        }

        long map(int x, int y) {
            needCell(x, y);
            for (int k = 0; k < spots.size(); k++) {
                if (spots.get(k).contains(y * width + x)) {
                    return k;
                }
            }
            return -1;
        }

        long alarm(int after, int level, int length) {
            need(after >= -1 && after < spots.size(), new IndexOutOfBoundsException());
            for (int k = after + 1; k < spots.size(); k++) {
                if (spot(k, 1) > level || spot(k, 6) != -1 && spot(k, 6) >= length) {
                    return k;
                }
            }
            return -1;
        }

        long falseOnes() {
            return far;
        }

        int latest() {
            return days.isEmpty() ? -1 : days.get(days.size() - 1)[0];
        }

        private int marked() {
            return spots.stream().mapToInt(spot -> spot.size()).sum();
        }

        long day(int day) {
            needIn(day, 10000);
            need(day > latest(), new IllegalArgumentException());
            need(days.size() < 30, new IllegalStateException());
            days.add(new int[] {day, marked()});
            return days.size();
        }

        long growth(int part) {
            needOf(part, 2);
            if (days.size() < 2) {
                return part;
            }
            long allDays = days.stream().mapToLong(day -> day[0]).sum();
            long allMarks = days.stream().mapToLong(day -> day[1]).sum();
            // Each difference from the mean, times the number of days, so that it stays whole.
            long above = 0;
            long below = 0;
            for (int[] day : days) {
                long fromMean = (long) day[0] * days.size() - allDays;
                above += fromMean * ((long) day[1] * days.size() - allMarks);
                below += fromMean * fromMean;
            }
            return fraction(above, below)[part].longValue();
        }

        long count(int what) {
            needOf(what, 7);
            return new int[] {width, height, charts.size(), spots.size(), marked(), days.size(), told}[what];
        }
    }
}
