/**
 * A scan's colours by a chart in it. The promises behind each method stand in DOC.md under the same name.
 *
 * All rows are made in the constructors and used again: no call makes an object but the exception that it throws.
 */
public final class ColourCharts {
    public static final int NONE = -1;

    private static final int PARTS = 3;
    private static final int GREEN = 1;
    private static final int[] PART_WEIGHTS = {2, 4, 3};
    private static final int GREATEST_PART = 255;
    private static final int PATCHES = 16;
    private static final int GREATEST_SIDE = 4;
    private static final int GREATEST_DAY = 100000;
    private static final int GREATEST_DAY_VALUE = 1000;
    private static final int MOST_DAYS = 40;

    private final Picture picture;
    private final Frame frame;
    private final Layout layout;
    private final Patch patchInHand;
    private final Targets targets;
    private final Lines lines;
    private final Sums sumsInHand;
    private final Rules rules;
    private final Sums days;

    public ColourCharts(int width, int height) {
        picture = new Picture(width, height);
        frame = new Frame();
        layout = new Layout();
        patchInHand = new Patch();
        targets = new Targets();
        lines = new Lines();
        sumsInHand = new Sums();
        rules = new Rules();
        days = new Sums();
    }

    public int pixel(int x, int y, int part, int v) throws IndexOutOfBoundsException, IllegalArgumentException {
        if (!picture.hasCell(x, y) || !isPart(part)) {
            throw new IndexOutOfBoundsException("no such cell or part");
        }
        if (!isPartValue(v)) {
            throw new IllegalArgumentException("a part is 0 .. 255");
        }
        return picture.exchangePart(x, y, part, v);
    }

    public int light(int x, int y, int v) throws IndexOutOfBoundsException, IllegalArgumentException {
        if (!picture.hasCell(x, y)) {
            throw new IndexOutOfBoundsException("no such cell");
        }
        if (!isPartValue(v)) {
            throw new IllegalArgumentException("a light is 0 .. 255");
        }
        return picture.exchangeLight(x, y, v);
    }

    public int lit(int x, int y, int part) throws IndexOutOfBoundsException {
        if (!picture.hasCell(x, y) || !isPart(part)) {
            throw new IndexOutOfBoundsException("no such cell or part");
        }
        return picture.litPart(x, y, part);
    }

    public boolean find() {
        frame.lookIn(picture);
        return frame.found;
    }

    public int box(int what) throws IndexOutOfBoundsException, IllegalStateException {
        if (what < 0 || what > 3) {
            throw new IndexOutOfBoundsException("no such side");
        }
        if (!frame.found) {
            throw new IllegalStateException("no frame is found");
        }
        return frame.side(what);
    }

    public void grid(int columns, int rows) throws IllegalArgumentException {
        if (!isGridSide(columns) || !isGridSide(rows)) {
            throw new IllegalArgumentException("columns and rows are 1 .. 4");
        }
        layout.columns = columns;
        layout.rows = rows;
    }

    public int turn(int quarter) throws IllegalArgumentException {
        if (quarter < 0 || quarter > 3) {
            throw new IllegalArgumentException("a quarter is 0 .. 3");
        }
        int former = layout.quarter;
        layout.quarter = quarter;
        return former;
    }

    public int read(int patch, int part) throws IndexOutOfBoundsException, IllegalStateException {
        if (!layout.hasPatch(patch) || !isPart(part)) {
            throw new IndexOutOfBoundsException("no such patch or part");
        }
        if (!frame.found) {
            throw new IllegalStateException("no frame is found");
        }
        return partOfPatch(patch, part);
    }

    public long noise(int patch, int part) throws IndexOutOfBoundsException, IllegalStateException {
        if (!layout.hasPatch(patch) || !isHalfOfFraction(part)) {
            throw new IndexOutOfBoundsException("no such patch or part of a fraction");
        }
        if (!frame.found) {
            throw new IllegalStateException("no frame is found");
        }
        patchInHand.aim(frame, layout, patch);
        return lessened(patchInHand.spread(picture), patchInHand.cellsSquared(), part);
    }

    public void target(int patch, int red, int green, int blue)
            throws IndexOutOfBoundsException, IllegalArgumentException {
        if (!isTargetPatch(patch)) {
            throw new IndexOutOfBoundsException("no such patch");
        }
        if (red < 0) {
            targets.drop(patch);
            return;
        }
        if (!isPartValue(red) || !isPartValue(green) || !isPartValue(blue)) {
            throw new IllegalArgumentException("a target's parts are 0 .. 255");
        }
        targets.keep(patch, red, green, blue);
    }

    public int neutral(int patch) throws IndexOutOfBoundsException, IllegalStateException {
        if (patch != NONE && !isTargetPatch(patch)) {
            throw new IndexOutOfBoundsException("no such patch");
        }
        if (patch != NONE && !targets.told[patch]) {
            throw new IllegalStateException("the patch has no target");
        }
        int former = targets.neutralPatch;
        targets.neutralPatch = patch;
        return former;
    }

    public int fit() throws IllegalStateException {
        if (!frame.found) {
            throw new IllegalStateException("no frame is found");
        }
        int told = targets.countBelow(layout.patches());
        if (told >= 2) {
            for (int part = 0; part < PARTS; part++) {
                fitPart(part);
            }
            lines.fitted = true;
        }
        return told;
    }

    public long line(int part, int what) throws IndexOutOfBoundsException, IllegalStateException {
        if (!isPart(part) || what < 0 || what > 2) {
            throw new IndexOutOfBoundsException("no such part or number of a line");
        }
        if (!lines.fitted) {
            throw new IllegalStateException("nothing was fitted");
        }
        return lines.number(part, what);
    }

    public int colour(int part, int v) throws IndexOutOfBoundsException, IllegalArgumentException, IllegalStateException {
        if (!isPart(part)) {
            throw new IndexOutOfBoundsException("no such part");
        }
        if (!isPartValue(v)) {
            throw new IllegalArgumentException("a part is 0 .. 255");
        }
        if (!lines.fitted) {
            throw new IllegalStateException("nothing was fitted");
        }
        return lines.partFrom(part, v);
    }

    public int difference(int patch) throws IndexOutOfBoundsException, IllegalStateException {
        if (!layout.hasPatch(patch)) {
            throw new IndexOutOfBoundsException("no such patch");
        }
        if (!frame.found || !lines.fitted) {
            throw new IllegalStateException("no frame is found, or nothing was fitted");
        }
        return differenceOrNone(patch);
    }

    public int unit(int sign) throws IllegalArgumentException, IllegalStateException {
        if (sign < 33 || sign > 126) {
            throw new IllegalArgumentException("a sign is 33 .. 126");
        }
        if (rules.textIsFull()) {
            throw new IllegalStateException("the text has 20 signs");
        }
        return rules.append((char) sign);
    }

    public int rule() throws IllegalStateException {
        if (rules.areFull()) {
            throw new IllegalStateException("there are eight rules");
        }
        return rules.takeText();
    }

    public int reject() throws IllegalStateException {
        if (!frame.found || !lines.fitted) {
            throw new IllegalStateException("no frame is found, or nothing was fitted");
        }
        int missing = layout.patches() - targets.countBelow(layout.patches());
        return rules.firstRejecting(greatestDifference(), greatestNoise(), missing);
    }

    public int day(int day, int v) throws IllegalArgumentException, IllegalStateException {
        if (day < 0 || day > GREATEST_DAY || v < 0 || v > GREATEST_DAY_VALUE) {
            throw new IllegalArgumentException("a day is 0 .. 100000, its value 0 .. 1000");
        }
        if (days.points >= MOST_DAYS) {
            throw new IllegalStateException("there are 40 days");
        }
        days.add(day, v);
        return days.points;
    }

    public long drift(int part) throws IndexOutOfBoundsException {
        if (!isHalfOfFraction(part)) {
            throw new IndexOutOfBoundsException("no such part of a fraction");
        }
        return lessened(days.freeAbove(), days.freeBelow(), part);
    }

    public int count(int what) throws IndexOutOfBoundsException {
        switch (what) {
            case 0:
                return picture.width;
            case 1:
                return picture.height;
            case 2:
                return targets.countBelow(PATCHES);
            case 3:
                return rules.rulesKept;
            case 4:
                return days.points;
            case 5:
                return rules.signs;
            default:
                throw new IndexOutOfBoundsException("no such count");
        }
    }

    private int partOfPatch(int patch, int part) {
        patchInHand.aim(frame, layout, patch);
        return patchInHand.mean(picture, part);
    }

    private void fitPart(int part) {
        int neutral = targets.neutralPatch;
        boolean held = layout.hasPatch(neutral);
        int heldX = held ? partOfPatch(neutral, part) : 0;
        int heldY = held ? targets.partOf(neutral, part) : 0;
        sumsInHand.clear();
        for (int patch = 0; patch < layout.patches(); patch++) {
            if (targets.told[patch]) {
                sumsInHand.add(partOfPatch(patch, part) - heldX, targets.partOf(patch, part) - heldY);
            }
        }
        if (held) {
            lines.hold(part, sumsInHand, heldX, heldY);
        } else {
            lines.fitFreely(part, sumsInHand);
        }
    }

    private int differenceOrNone(int patch) {
        if (!targets.told[patch]) {
            return NONE;
        }
        int sum = 0;
        for (int part = 0; part < PARTS; part++) {
            int miss = lines.partFrom(part, partOfPatch(patch, part)) - targets.partOf(patch, part);
            sum += PART_WEIGHTS[part] * miss * miss;
        }
        return sum;
    }

    /** With no targets in the grid any more nothing differs, so it is 0 then. */
    private int greatestDifference() {
        int greatest = 0;
        for (int patch = 0; patch < layout.patches(); patch++) {
            greatest = Math.max(greatest, differenceOrNone(patch));
        }
        return greatest;
    }

    private long greatestNoise() {
        long greatest = 0;
        for (int patch = 0; patch < layout.patches(); patch++) {
            patchInHand.aim(frame, layout, patch);
            long below = patchInHand.cellsSquared();
            if (below > 0) {
                greatest = Math.max(greatest, patchInHand.spread(picture) / below);
            }
        }
        return greatest;
    }

    private static boolean isPart(int part) {
        return part >= 0 && part < PARTS;
    }

    private static boolean isPartValue(int v) {
        return v >= 0 && v <= GREATEST_PART;
    }

    private static boolean isGridSide(int side) {
        return side >= 1 && side <= GREATEST_SIDE;
    }

    private static boolean isTargetPatch(int patch) {
        return patch >= 0 && patch < PATCHES;
    }

    private static boolean isHalfOfFraction(int half) {
        return half == 0 || half == 1;
    }

    /** Halves go up below 0 too, so the division must round down there. */
    private static long nearest(long above, long below) {
        if (below <= 0) {
            return 0;
        }
        return Math.floorDiv(2 * above + below, 2 * below);
    }

    /** What stands above (0) or below (1) in the lessened fraction; nothing over nothing counts as 0 / 1. */
    private static long lessened(long above, long below, int half) {
        long common = commonDivisor(above, below);
        if (common <= 0) {
            return half;
        }
        return (half == 0 ? above : below) / common;
    }

    /** Euclid needs less than a hundred steps for any two longs. */
    private static long commonDivisor(long one, long other) {
        long greater = Math.abs(one);
        long rest = Math.abs(other);
        for (int step = 0; step < 200 && rest != 0; step++) {
            long next = greater % rest;
            greater = rest;
            rest = next;
        }
        return greater;
    }

    private static final class Picture {
        private static final int LEAST = 6;
        private static final int GREATEST = 30;
        private static final int FIRST_LIGHT = 200;
        private static final int EVEN_LIGHT = 200;
        private static final int GREATEST_DARK = 40;

        final int width;
        final int height;
        private final int[] parts;
        private final int[] lights;

        Picture(int askedWidth, int askedHeight) {
            width = Math.max(LEAST, Math.min(GREATEST, askedWidth));
            height = Math.max(LEAST, Math.min(GREATEST, askedHeight));
            parts = new int[width * height * PARTS];
            lights = new int[width * height];
            for (int at = 0; at < parts.length; at++) {
                parts[at] = GREATEST_PART;
            }
            for (int at = 0; at < lights.length; at++) {
                lights[at] = FIRST_LIGHT;
            }
        }

        boolean hasCell(int x, int y) {
            return x >= 0 && x < width && y >= 0 && y < height;
        }

        int exchangePart(int x, int y, int part, int v) {
            int at = (y * width + x) * PARTS + part;
            int former = parts[at];
            parts[at] = v;
            return former;
        }

        int exchangeLight(int x, int y, int v) {
            int at = y * width + x;
            int former = lights[at];
            lights[at] = v;
            return former;
        }

        int litPart(int x, int y, int part) {
            int cell = y * width + x;
            int light = lights[cell];
            if (light == 0) {
                return 0;
            }
            int above = parts[cell * PARTS + part] * EVEN_LIGHT;
            return Math.min(GREATEST_PART, (2 * above + light) / (2 * light));
        }

        boolean isDark(int x, int y) {
            int first = (y * width + x) * PARTS;
            for (int part = 0; part < PARTS; part++) {
                if (parts[first + part] > GREATEST_DARK) {
                    return false;
                }
            }
            return true;
        }
    }

    private static final class Frame {
        private static final int LEAST_SIDE = 6;

        boolean found;
        int left;
        int top;
        int right;
        int bottom;

        void lookIn(Picture picture) {
            left = picture.width;
            top = picture.height;
            right = NONE;
            bottom = NONE;
            for (int y = 0; y < picture.height; y++) {
                for (int x = 0; x < picture.width; x++) {
                    if (picture.isDark(x, y)) {
                        widenTo(x, y);
                    }
                }
            }
            found = right - left + 1 >= LEAST_SIDE && bottom - top + 1 >= LEAST_SIDE && borderIsDark(picture);
        }

        private void widenTo(int x, int y) {
            left = Math.min(left, x);
            top = Math.min(top, y);
            right = Math.max(right, x);
            bottom = Math.max(bottom, y);
        }

        private boolean borderIsDark(Picture picture) {
            for (int x = left; x <= right; x++) {
                if (!picture.isDark(x, top) || !picture.isDark(x, bottom)) {
                    return false;
                }
            }
            for (int y = top; y <= bottom; y++) {
                if (!picture.isDark(left, y) || !picture.isDark(right, y)) {
                    return false;
                }
            }
            return true;
        }

        int side(int what) {
            switch (what) {
                case 0:
                    return left;
                case 1:
                    return top;
                case 2:
                    return right;
                default:
                    return bottom;
            }
        }
    }

    /** The grid and the quarter: where in the grid the patch of a number lies. */
    private static final class Layout {
        int columns = 2;
        int rows = 2;
        int quarter = 0;

        int patches() {
            return columns * rows;
        }

        boolean hasPatch(int patch) {
            return patch >= 0 && patch < patches();
        }

        int columnOf(int patch) {
            if (columns <= 0 || rows <= 0) {
                return 0;
            }
            switch (quarter) {
                case 1:
                    return columns - 1 - patch / rows;
                case 2:
                    return columns - 1 - patch % columns;
                case 3:
                    return patch / rows;
                default:
                    return patch % columns;
            }
        }

        int rowOf(int patch) {
            if (columns <= 0 || rows <= 0) {
                return 0;
            }
            switch (quarter) {
                case 1:
                    return patch % rows;
                case 2:
                    return rows - 1 - patch / columns;
                case 3:
                    return rows - 1 - patch % rows;
                default:
                    return patch / columns;
            }
        }
    }

    /** The cells of a patch; one object serves all patches, aimed at one after the other. */
    private static final class Patch {
        private int left;
        private int top;
        private int beyondRight;
        private int beyondBottom;

        void aim(Frame frame, Layout layout, int patch) {
            int column = layout.columnOf(patch);
            int row = layout.rowOf(patch);
            int wide = frame.right - frame.left - 1;
            int high = frame.bottom - frame.top - 1;
            left = frame.left + 1 + firstOf(column, layout.columns, wide);
            beyondRight = frame.left + 1 + firstOf(column + 1, layout.columns, wide);
            top = frame.top + 1 + firstOf(row, layout.rows, high);
            beyondBottom = frame.top + 1 + firstOf(row + 1, layout.rows, high);
        }

        /** i * sharers / n, rounded down, comes to the share at the least i with i * sharers >= share * n. */
        private static int firstOf(int share, int sharers, int n) {
            if (sharers <= 0) {
                return 0;
            }
            return (share * n + sharers - 1) / sharers;
        }

        private int cells() {
            return (beyondRight - left) * (beyondBottom - top);
        }

        long cellsSquared() {
            return (long) cells() * cells();
        }

        int mean(Picture picture, int part) {
            int sum = 0;
            for (int y = top; y < beyondBottom; y++) {
                for (int x = left; x < beyondRight; x++) {
                    sum += picture.litPart(x, y, part);
                }
            }
            return (int) nearest(sum, cells());
        }

        /** The noise before it is divided by the square of the number of cells. */
        long spread(Picture picture) {
            long sum = 0;
            long squares = 0;
            for (int y = top; y < beyondBottom; y++) {
                for (int x = left; x < beyondRight; x++) {
                    long green = picture.litPart(x, y, GREEN);
                    sum += green;
                    squares += green * green;
                }
            }
            return cells() * squares - sum * sum;
        }
    }

    private static final class Targets {
        final boolean[] told = new boolean[PATCHES];
        private final int[] parts = new int[PATCHES * PARTS];
        int neutralPatch = NONE;

        void keep(int patch, int red, int green, int blue) {
            told[patch] = true;
            parts[patch * PARTS] = red;
            parts[patch * PARTS + 1] = green;
            parts[patch * PARTS + 2] = blue;
        }

        void drop(int patch) {
            told[patch] = false;
            if (neutralPatch == patch) {
                neutralPatch = NONE;
            }
        }

        int partOf(int patch, int part) {
            return parts[patch * PARTS + part];
        }

        int countBelow(int patches) {
            int counted = 0;
            for (int patch = 0; patch < patches && patch < PATCHES; patch++) {
                if (told[patch]) {
                    counted++;
                }
            }
            return counted;
        }
    }

    /** What least squares need of points (x, y); the greatest, of 40 days, stay far within a long. */
    private static final class Sums {
        int points;
        long x;
        long y;
        long xx;
        long xy;

        void clear() {
            points = 0;
            x = 0;
            y = 0;
            xx = 0;
            xy = 0;
        }

        void add(long pointX, long pointY) {
            points++;
            x += pointX;
            y += pointY;
            xx += pointX * pointX;
            xy += pointX * pointY;
        }

        long freeAbove() {
            return points * xy - x * y;
        }

        /** It is 0 just when there are no two different x, and freeAbove is 0 then, too. */
        long freeBelow() {
            return points * xx - x * x;
        }
    }

    /** The latest fit: for each part the line y = (a x + b) / d. */
    private static final class Lines {
        boolean fitted;
        private final long[] a = new long[PARTS];
        private final long[] b = new long[PARTS];
        private final long[] d = new long[PARTS];

        void fitFreely(int part, Sums sums) {
            long below = sums.freeBelow();
            if (below == 0) {
                keep(part, 0, sums.y, sums.points);
            } else {
                keep(part, sums.freeAbove(), sums.y * sums.xx - sums.x * sums.xy, below);
            }
        }

        /** The sums are of how far the points are from the held one. */
        void hold(int part, Sums sums, long heldX, long heldY) {
            if (sums.xx == 0) {
                keep(part, 0, heldY, 1);
            } else {
                keep(part, sums.xy, sums.xx * heldY - sums.xy * heldX, sums.xx);
            }
        }

        private void keep(int part, long newA, long newB, long newD) {
            long common = commonDivisor(commonDivisor(newA, newB), newD);
            if (common <= 0) {
                return;
            }
            a[part] = newA / common;
            b[part] = newB / common;
            d[part] = newD / common;
        }

        long number(int part, int what) {
            switch (what) {
                case 0:
                    return a[part];
                case 1:
                    return b[part];
                default:
                    return d[part];
            }
        }

        int partFrom(int part, int v) {
            long near = nearest(a[part] * v + b[part], d[part]);
            return (int) Math.max(0, Math.min(GREATEST_PART, near));
        }
    }

    private static final class Rules {
        private static final int MOST_RULES = 8;
        private static final int MOST_SIGNS = 20;
        private static final int FIRST_DIGIT = 2;
        private static final int MOST_DIGITS = 6;

        int rulesKept;
        int signs;
        private final char[] text = new char[MOST_SIGNS];
        private final char[] kinds = new char[MOST_RULES];
        private final char[] comparisons = new char[MOST_RULES];
        private final int[] limits = new int[MOST_RULES];

        boolean textIsFull() {
            return signs >= MOST_SIGNS;
        }

        boolean areFull() {
            return rulesKept >= MOST_RULES;
        }

        int append(char sign) {
            text[signs] = sign;
            signs++;
            return signs;
        }

        int takeText() {
            boolean taken = textIsRule();
            if (taken) {
                kinds[rulesKept] = text[0];
                comparisons[rulesKept] = text[1];
                limits[rulesKept] = numberInText();
                rulesKept++;
            }
            signs = 0;
            return taken ? rulesKept - 1 : NONE;
        }

        private boolean textIsRule() {
            if (signs <= FIRST_DIGIT || signs > FIRST_DIGIT + MOST_DIGITS) {
                return false;
            }
            for (int at = FIRST_DIGIT; at < signs; at++) {
                if (text[at] < '0' || text[at] > '9') {
                    return false;
                }
            }
            boolean kind = text[0] == 'd' || text[0] == 'n' || text[0] == 'm';
            return kind && (text[1] == '<' || text[1] == '>');
        }

        private int numberInText() {
            int number = 0;
            for (int at = FIRST_DIGIT; at < signs; at++) {
                number = number * 10 + text[at] - '0';
            }
            return number;
        }

        int firstRejecting(long difference, long noise, long missing) {
            for (int rule = 0; rule < rulesKept; rule++) {
                long measured = kinds[rule] == 'd' ? difference : kinds[rule] == 'n' ? noise : missing;
                boolean rejects = comparisons[rule] == '<' ? measured < limits[rule] : measured > limits[rule];
                if (rejects) {
                    return rule;
                }
            }
            return NONE;
        }
    }
}
