import java.math.BigInteger;
import java.util.ArrayList;
import java.util.List;
import java.util.Random;

/**
 * Runs of calls with arguments good and bad, against a model that is written from the document's words alone: slow,
 * with fractions of BigIntegers, patches as lists of cells, texts by a regular expression. The seeds are fixed, so a
 * fault shows again.
 */
public final class RandomRunsTest {
    private static final int RUNS = 2500;
    private static final int CALLS = 512;
    private static final Check CHECK = new Check();
    /** A step is at most a rule's text and the rule. */
    private static final int MOST_AT_ONCE = 10;
    /** Cells within the frame are painted at first only while so many calls are left. */
    private static final int LEFT = 300;
    private static int calls = 0;

    public static void main(String[] args) {
        for (int seed = 0; seed < RUNS; seed++) {
            run(seed);
        }
        CHECK.end("RandomRunsTest");
    }

    private static void run(int seed) {
        Random random = new Random(seed);
        int width = seed % 3 == 0 ? random.nextInt(40) - 3 : 6 + random.nextInt(4);
        int height = seed % 3 == 0 ? random.nextInt(40) - 3 : 6 + random.nextInt(4);
        ColourCharts real = new ColourCharts(width, height);
        Model model = new Model(width, height);
        calls = 0;
        if (seed % 5 != 0) {
            paintFrame(real, model, random);
        }
        while (calls < CALLS - MOST_AT_ONCE) {
            oneCall("seed " + seed + " call " + calls + " ", real, model, random);
        }
    }

    private static void paintFrame(ColourCharts real, Model model, Random random) {
        int left = random.nextInt(model.width - 5);
        int top = random.nextInt(model.height - 5);
        int right = left + 5 + random.nextInt(model.width - left - 5);
        int bottom = top + 5 + random.nextInt(model.height - top - 5);
        for (int y = top; y <= bottom; y++) {
            for (int x = left; x <= right; x++) {
                if (x == left || x == right || y == top || y == bottom) {
                    paint(real, model, random, x, y, 41);
                }
            }
        }
        for (int y = top + 1; y < bottom; y++) {
            for (int x = left + 1; x < right && calls < CALLS - LEFT; x++) {
                paint(real, model, random, x, y, 256);
            }
        }
    }

    private static void paint(ColourCharts real, Model model, Random random, int x, int y, int bound) {
        for (int part = 0; part < 3; part++) {
            int v = random.nextInt(bound);
            real.pixel(x, y, part, v);
            model.parts[x][y][part] = v;
            calls++;
        }
    }

    private static final int[] WILD = {-1, -2, 256, 16, 1001, 100001, Integer.MIN_VALUE, Integer.MAX_VALUE};

    /** Mostly below the bound, now and then at it or wild. */
    private static int some(Random random, int bound) {
        int kind = random.nextInt(40);
        return kind == 0 ? WILD[random.nextInt(WILD.length)] : kind == 1 ? bound : random.nextInt(bound);
    }

    private static void oneCall(String at, ColourCharts real, Model model, Random r) {
        int kind = r.nextInt(24);
        switch (kind) {
            case 0: {
                int x = some(r, model.width);
                int y = some(r, model.height);
                int part = some(r, 3);
                int v = some(r, 256);
                same(at + "pixel", () -> real.pixel(x, y, part, v), () -> model.pixel(x, y, part, v));
                return;
            }
            case 1: {
                int x = some(r, model.width);
                int y = some(r, model.height);
                int v = r.nextBoolean() ? 150 + r.nextInt(100) : some(r, 256);
                same(at + "light", () -> real.light(x, y, v), () -> model.light(x, y, v));
                return;
            }
            case 2: {
                int x = some(r, model.width);
                int y = some(r, model.height);
                int part = some(r, 3);
                same(at + "lit", () -> real.lit(x, y, part), () -> model.lit(x, y, part));
                return;
            }
            case 3:
                same(at + "find", () -> real.find() ? 1 : 0, () -> model.find() ? 1 : 0);
                return;
            default:
                oneMoreCall(at, kind, real, model, r);
        }
    }

    private static void oneMoreCall(String at, int kind, ColourCharts real, Model model, Random r) {
        int patch = some(r, r.nextBoolean() ? 16 : model.columns * model.rows);
        int part = some(r, 3);
        int v = some(r, 256);
        int w = some(r, 256);
        int few = some(r, 2);
        switch (kind) {
            case 4:
                same(at + "box", () -> real.box(patch), () -> model.box(patch));
                same(at + "box", () -> real.box(v % 4), () -> model.box(v % 4));
                return;
            case 5: {
                int columns = r.nextInt(20) == 0 ? WILD[r.nextInt(8)] : r.nextInt(6);
                int rows = r.nextInt(20) == 0 ? WILD[r.nextInt(8)] : r.nextInt(6);
                same(at + "grid", () -> Scenes.grid(real, columns, rows), () -> model.grid(columns, rows));
                return;
            }
            case 6: {
                int quarter = some(r, 4);
                same(at + "turn", () -> real.turn(quarter), () -> model.turn(quarter));
                return;
            }
            case 7:
                same(at + "read", () -> real.read(patch, part), () -> model.read(patch, part));
                return;
            case 8:
                same(at + "noise", () -> real.noise(patch, few), () -> model.noise(patch, few));
                return;
            case 9:
            case 10:
            case 11: {
                int red = r.nextInt(12) == 0 ? -1 : some(r, 256);
                same(at + "target", () -> Scenes.target(real, patch, red, v, w), () -> model.target(patch, red, v, w));
                return;
            }
            case 12: {
                int which = r.nextInt(3) == 0 ? -1 : patch;
                same(at + "neutral", () -> real.neutral(which), () -> model.neutral(which));
                return;
            }
            case 13:
                same(at + "fit", real::fit, model::fit);
                return;
            case 14:
                for (int what = 0; what < 3; what++) {
                    int number = what;
                    same(at + "line", () -> real.line(part, number), () -> model.line(part, number));
                }
                same(at + "line", () -> real.line(part, few), () -> model.line(part, few));
                return;
            case 15:
                same(at + "colour", () -> real.colour(part, v), () -> model.colour(part, v));
                return;
            case 16:
                same(at + "difference", () -> real.difference(patch), () -> model.difference(patch));
                return;
            default:
                oneTextOrDay(at, kind, real, model, r);
        }
    }

    private static void oneTextOrDay(String at, int kind, ColourCharts real, Model model, Random r) {
        int few = some(r, 2);
        switch (kind) {
            case 17: {
                int sign = r.nextInt(4) == 0 ? 30 + r.nextInt(100) : "dnm<>0123456789".charAt(r.nextInt(15));
                same(at + "unit", () -> real.unit(sign), () -> model.unit(sign));
                return;
            }
            case 18:
                if (r.nextInt(3) == 0) {
                    String text = "" + "dnm".charAt(r.nextInt(3)) + "<>".charAt(r.nextInt(2)) + someLimit(model, r);
                    for (int i = 0; i < text.length(); i++) {
                        int sign = text.charAt(i);
                        same(at + "unit", () -> real.unit(sign), () -> model.unit(sign));
                    }
                }
                same(at + "rule", real::rule, model::rule);
                return;
            case 19:
                same(at + "reject", real::reject, model::reject);
                return;
            case 20: {
                int day = r.nextBoolean() ? some(r, 100001) : some(r, 12);
                int value = some(r, 1001);
                if (r.nextInt(3) == 0) {
                    same(at + "day", () -> real.day(day, value), () -> model.day(day, value));
                }
                return;
            }
            case 21:
                same(at + "drift", () -> real.drift(few), () -> model.drift(few));
                return;
            default: {
                int what = some(r, 6);
                same(at + "count", () -> real.count(what), () -> model.count(what));
            }
        }
    }

    /** Near what is measured now, or anything. */
    private static int someLimit(Model model, Random r) {
        if (model.box != null && model.fitted != null && r.nextBoolean()) {
            int[] measured = {model.measure('d').intValue(), model.measure('n').intValue(), model.measure('m').intValue()};
            return Math.max(0, Math.min(999999, measured[r.nextInt(3)] + r.nextInt(3) - 1));
        }
        return r.nextInt(r.nextBoolean() ? 20 : 300000);
    }

    private static void same(String call, Check.Call real, Check.Call model) {
        calls++;
        CHECK.dueText(call, Check.told(real), Check.told(model));
    }

    /** A fraction that cannot be lessened, its lower number above 0. */
    private static final class Fraction {
        final BigInteger above;
        final BigInteger below;

        Fraction(BigInteger above, BigInteger below) {
            BigInteger common = above.gcd(below).multiply(BigInteger.valueOf(below.signum()));
            this.above = above.divide(common);
            this.below = below.divide(common);
        }

        static Fraction of(long whole) {
            return new Fraction(BigInteger.valueOf(whole), BigInteger.ONE);
        }

        Fraction plus(Fraction o) {
            return new Fraction(above.multiply(o.below).add(o.above.multiply(below)), below.multiply(o.below));
        }

        Fraction minus(Fraction o) {
            return plus(new Fraction(o.above.negate(), o.below));
        }

        Fraction times(Fraction o) {
            return new Fraction(above.multiply(o.above), below.multiply(o.below));
        }

        Fraction over(Fraction o) {
            return new Fraction(above.multiply(o.below), below.multiply(o.above));
        }

        boolean isZero() {
            return above.signum() == 0;
        }

        BigInteger floor() {
            BigInteger[] q = above.divideAndRemainder(below);
            return q[1].signum() < 0 ? q[0].subtract(BigInteger.ONE) : q[0];
        }

        int nearest() {
            return plus(new Fraction(BigInteger.ONE, BigInteger.TWO)).floor().intValueExact();
        }
    }

    private static Fraction mean(List<Fraction> all) {
        Fraction sum = Fraction.of(0);
        for (Fraction f : all) {
            sum = sum.plus(f);
        }
        return sum.over(Fraction.of(all.size()));
    }

    /** The slope by how far points are from a middle one: their mean, or the one that holds the line; null: none. */
    private static Fraction slope(List<Fraction> xs, List<Fraction> ys, Fraction middleX, Fraction middleY) {
        Fraction above = Fraction.of(0);
        Fraction below = Fraction.of(0);
        for (int i = 0; i < xs.size(); i++) {
            Fraction x = xs.get(i).minus(middleX);
            above = above.plus(x.times(ys.get(i).minus(middleY)));
            below = below.plus(x.times(x));
        }
        return below.isZero() ? null : above.over(below);
    }

    private static final class Model {
        final int width;
        final int height;
        final int[][][] parts;
        final int[][] lights;
        int[] box = null;
        int columns = 2;
        int rows = 2;
        int quarter = 0;
        final int[][] targets = new int[16][];
        int neutral = -1;
        Fraction[][] fitted = null;
        String text = "";
        final List<String> rules = new ArrayList<>();
        final List<Fraction> days = new ArrayList<>();
        final List<Fraction> values = new ArrayList<>();

        Model(int askedWidth, int askedHeight) {
            width = askedWidth < 6 ? 6 : askedWidth > 30 ? 30 : askedWidth;
            height = askedHeight < 6 ? 6 : askedHeight > 30 ? 30 : askedHeight;
            parts = new int[width][height][];
            lights = new int[width][height];
            for (int x = 0; x < width; x++) {
                for (int y = 0; y < height; y++) {
                    parts[x][y] = new int[] {255, 255, 255};
                    lights[x][y] = 200;
                }
            }
        }

        private static void index(boolean good) {
            if (!good) {
                throw new IndexOutOfBoundsException();
            }
        }

        private static void argument(boolean good) {
            if (!good) {
                throw new IllegalArgumentException();
            }
        }

        private static void state(boolean good) {
            if (!good) {
                throw new IllegalStateException();
            }
        }

        private static boolean in(int v, int least, int greatest) {
            return least <= v && v <= greatest;
        }

        private void cell(int x, int y) {
            index(in(x, 0, width - 1) && in(y, 0, height - 1));
        }

        long pixel(int x, int y, int part, int v) {
            cell(x, y);
            index(in(part, 0, 2));
            argument(in(v, 0, 255));
            long was = parts[x][y][part];
            parts[x][y][part] = v;
            return was;
        }

        long light(int x, int y, int v) {
            cell(x, y);
            argument(in(v, 0, 255));
            long was = lights[x][y];
            lights[x][y] = v;
            return was;
        }

        int lit(int x, int y, int part) {
            cell(x, y);
            index(in(part, 0, 2));
            if (lights[x][y] == 0) {
                return 0;
            }
            return Math.min(255, Fraction.of(parts[x][y][part] * 200L).over(Fraction.of(lights[x][y])).nearest());
        }

        boolean find() {
            List<int[]> dark = new ArrayList<>();
            for (int x = 0; x < width; x++) {
                for (int y = 0; y < height; y++) {
                    int[] p = parts[x][y];
                    if (p[0] <= 40 && p[1] <= 40 && p[2] <= 40) {
                        dark.add(new int[] {x, y});
                    }
                }
            }
            box = null;
            if (dark.isEmpty()) {
                return false;
            }
            int left = dark.stream().mapToInt(c -> c[0]).min().getAsInt();
            int right = dark.stream().mapToInt(c -> c[0]).max().getAsInt();
            int top = dark.stream().mapToInt(c -> c[1]).min().getAsInt();
            int bottom = dark.stream().mapToInt(c -> c[1]).max().getAsInt();
            long onBorder = dark.stream()
                .filter(c -> c[0] == left || c[0] == right || c[1] == top || c[1] == bottom).count();
            int wide = right - left + 1;
            int high = bottom - top + 1;
            if (wide >= 6 && high >= 6 && onBorder == 2 * wide + 2 * high - 4) {
                box = new int[] {left, top, right, bottom};
            }
            return box != null;
        }

        long box(int what) {
            index(in(what, 0, 3));
            state(box != null);
            return box[what];
        }

        long grid(int newColumns, int newRows) {
            argument(in(newColumns, 1, 4) && in(newRows, 1, 4));
            columns = newColumns;
            rows = newRows;
            return 0;
        }

        long turn(int newQuarter) {
            argument(in(newQuarter, 0, 3));
            int was = quarter;
            quarter = newQuarter;
            return was;
        }

        /** All patches, as column and row, in the order that the quarter tells. */
        private List<int[]> order() {
            List<int[]> order = new ArrayList<>();
            if (quarter == 0) {
                for (int r = 0; r < rows; r++) {
                    for (int c = 0; c < columns; c++) {
                        order.add(new int[] {c, r});
                    }
                }
            } else if (quarter == 1) {
                for (int c = columns - 1; c >= 0; c--) {
                    for (int r = 0; r < rows; r++) {
                        order.add(new int[] {c, r});
                    }
                }
            } else if (quarter == 2) {
                for (int r = rows - 1; r >= 0; r--) {
                    for (int c = columns - 1; c >= 0; c--) {
                        order.add(new int[] {c, r});
                    }
                }
            } else {
                for (int c = 0; c < columns; c++) {
                    for (int r = rows - 1; r >= 0; r--) {
                        order.add(new int[] {c, r});
                    }
                }
            }
            return order;
        }

        private List<Fraction> litCells(int patch, int part) {
            int[] at = order().get(patch);
            int wide = box[2] - box[0] - 1;
            int high = box[3] - box[1] - 1;
            List<Fraction> cells = new ArrayList<>();
            for (int i = 0; i < wide; i++) {
                for (int j = 0; j < high; j++) {
                    if (i * columns / wide == at[0] && j * rows / high == at[1]) {
                        cells.add(Fraction.of(lit(box[0] + 1 + i, box[1] + 1 + j, part)));
                    }
                }
            }
            return cells;
        }

        int read(int patch, int part) {
            index(in(patch, 0, columns * rows - 1) && in(part, 0, 2));
            state(box != null);
            return mean(litCells(patch, part)).nearest();
        }

        private Fraction noiseOf(int patch) {
            List<Fraction> greens = litCells(patch, 1);
            Fraction middle = mean(greens);
            List<Fraction> squares = new ArrayList<>();
            for (Fraction g : greens) {
                squares.add(g.minus(middle).times(g.minus(middle)));
            }
            return mean(squares);
        }

        long noise(int patch, int part) {
            index(in(patch, 0, columns * rows - 1) && in(part, 0, 1));
            state(box != null);
            Fraction noise = noiseOf(patch);
            return (part == 0 ? noise.above : noise.below).longValueExact();
        }

        long target(int patch, int red, int green, int blue) {
            index(in(patch, 0, 15));
            if (red < 0) {
                targets[patch] = null;
                neutral = neutral == patch ? -1 : neutral;
                return 0;
            }
            argument(red <= 255 && in(green, 0, 255) && in(blue, 0, 255));
            targets[patch] = new int[] {red, green, blue};
            return 0;
        }

        long neutral(int patch) {
            index(in(patch, -1, 15));
            state(patch == -1 || targets[patch] != null);
            int was = neutral;
            neutral = patch;
            return was;
        }

        long fit() {
            state(box != null);
            List<Integer> told = new ArrayList<>();
            for (int patch = 0; patch < columns * rows; patch++) {
                if (targets[patch] != null) {
                    told.add(patch);
                }
            }
            if (told.size() < 2) {
                return told.size();
            }
            fitted = new Fraction[3][];
            for (int part = 0; part < 3; part++) {
                fitted[part] = fitOf(part, told);
            }
            return told.size();
        }

        private Fraction[] fitOf(int part, List<Integer> told) {
            List<Fraction> xs = new ArrayList<>();
            List<Fraction> ys = new ArrayList<>();
            for (int patch : told) {
                xs.add(Fraction.of(read(patch, part)));
                ys.add(Fraction.of(targets[patch][part]));
            }
            boolean held = told.contains(neutral);
            Fraction x = held ? xs.get(told.indexOf(neutral)) : mean(xs);
            Fraction y = held ? ys.get(told.indexOf(neutral)) : mean(ys);
            Fraction slope = slope(xs, ys, x, y);
            return slope == null ? new Fraction[] {Fraction.of(0), y} : new Fraction[] {slope, y.minus(slope.times(x))};
        }

        long line(int part, int what) {
            index(in(part, 0, 2) && in(what, 0, 2));
            state(fitted != null);
            BigInteger one = fitted[part][0].below;
            BigInteger other = fitted[part][1].below;
            BigInteger d = one.multiply(other).divide(one.gcd(other));
            Fraction all = new Fraction(d, BigInteger.ONE);
            BigInteger number = what == 2 ? d : fitted[part][what].times(all).above;
            return number.longValueExact();
        }

        int colour(int part, int v) {
            index(in(part, 0, 2));
            argument(in(v, 0, 255));
            state(fitted != null);
            return Math.max(0, Math.min(255, fitted[part][0].times(Fraction.of(v)).plus(fitted[part][1]).nearest()));
        }

        long difference(int patch) {
            index(in(patch, 0, columns * rows - 1));
            state(box != null && fitted != null);
            if (targets[patch] == null) {
                return -1;
            }
            int[] weights = {2, 4, 3};
            long sum = 0;
            for (int part = 0; part < 3; part++) {
                long off = colour(part, read(patch, part)) - targets[patch][part];
                sum += weights[part] * off * off;
            }
            return sum;
        }

        long unit(int sign) {
            argument(in(sign, 33, 126));
            state(text.length() < 20);
            text += (char) sign;
            return text.length();
        }

        long rule() {
            state(rules.size() < 8);
            String taken = text;
            text = "";
            if (!taken.matches("[dnm][<>][0-9]{1,6}")) {
                return -1;
            }
            rules.add(taken);
            return rules.size() - 1;
        }

        BigInteger measure(char kind) {
            BigInteger greatest = BigInteger.ZERO;
            for (int patch = 0; patch < columns * rows; patch++) {
                if (kind == 'd' && targets[patch] != null) {
                    greatest = greatest.max(BigInteger.valueOf(difference(patch)));
                } else if (kind == 'n') {
                    greatest = greatest.max(noiseOf(patch).floor());
                } else if (kind == 'm' && targets[patch] == null) {
                    greatest = greatest.add(BigInteger.ONE);
                }
            }
            return greatest;
        }

        long reject() {
            state(box != null && fitted != null);
            for (int i = 0; i < rules.size(); i++) {
                String rule = rules.get(i);
                int compared = measure(rule.charAt(0)).compareTo(new BigInteger(rule.substring(2)));
                if (rule.charAt(1) == '<' ? compared < 0 : compared > 0) {
                    return i;
                }
            }
            return -1;
        }

        long day(int day, int v) {
            argument(in(day, 0, 100000) && in(v, 0, 1000));
            state(days.size() < 40);
            days.add(Fraction.of(day));
            values.add(Fraction.of(v));
            return days.size();
        }

        long drift(int part) {
            index(in(part, 0, 1));
            Fraction slope = days.isEmpty() ? null : slope(days, values, mean(days), mean(values));
            Fraction drift = slope == null ? Fraction.of(0) : slope;
            return (part == 0 ? drift.above : drift.below).longValueExact();
        }

        long count(int what) {
            index(in(what, 0, 5));
            int targetsTold = 0;
            for (int[] t : targets) {
                targetsTold += t == null ? 0 : 1;
            }
            return new int[] {width, height, targetsTold, rules.size(), days.size(), text.length()}[what];
        }
    }
}
