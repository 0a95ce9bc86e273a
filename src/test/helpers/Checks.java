/** What the tests share: an answer beside the one that is due, and pictures that are easily made. */
abstract class Checks {
    static final String INDEX = "throws.IndexOutOfBoundsException";
    static final String ARGUMENT = "throws.IllegalArgumentException";
    static final String STATE = "throws.IllegalStateException";

    static final int LOWEST = Integer.MIN_VALUE;
    static final int HIGHEST = Integer.MAX_VALUE;
    static final int NONE = PictureChange.NONE;

    private static int wrong = 0;

    interface Call {
        long answer();
    }

    static void due(String call, Call asked, long want) {
        due(call, asked, Long.toString(want));
    }

    static void due(String call, Call asked, String want) {
        String got = answerOf(asked);
        if (!got.equals(want)) {
            wrong++;
            System.out.println(call + " answered " + got + ", due is " + want);
        }
    }

    static String answerOf(Call asked) {
        try {
            return Long.toString(asked.answer());
        } catch (RuntimeException e) {
            // The exact class: one that the machine throws is a subclass and must not pass for the document's.
            return "throws." + e.getClass().getSimpleName();
        }
    }

    static void finish() {
        System.out.println(wrong == 0 ? "all answers are as due" : wrong + " answers are not as due");
        if (wrong != 0) {
            System.exit(1);
        }
    }

    static long bit(boolean b) {
        return b ? 1 : 0;
    }

    /** A new object whose later picture is 100 at each #; only these take a call, as there are but 512. */
    static PictureChange painted(String... rows) {
        PictureChange p = new PictureChange(rows[0].length(), rows.length);
        for (int y = 0; y < rows.length; y++) {
            for (int x = 0; x < rows[y].length(); x++) {
                if (rows[y].charAt(x) == '#') {
                    p.cell(true, x, y, 100);
                }
            }
        }
        return p;
    }

    /** A new object whose later picture is the former one at a shift; nothing is registered. */
    static PictureChange textured(int width, int height, int across, int down) {
        PictureChange p = new PictureChange(width, height);
        for (int y = 0; y < height; y++) {
            for (int x = 0; x < width; x++) {
                p.cell(false, x, y, texture(x, y));
                p.cell(true, x, y, texture(x - across, y - down));
            }
        }
        return p;
    }

    /** Values that no shift but the true one lays on their like. */
    static int texture(int x, int y) {
        return 10 + Math.floorMod(x * x * 71 + y * 57 + x * y * 37, 200);
    }
}
