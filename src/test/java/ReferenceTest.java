import java.math.BigInteger;
import java.util.ArrayDeque;
import java.util.ArrayList;
import java.util.Comparator;
import java.util.Deque;
import java.util.List;
import java.util.Map;
import java.util.Random;
import java.util.TreeMap;
import java.util.TreeSet;
import java.util.function.ToIntFunction;

/**
 * Long runs of calls, each answer compared with that of a second implementation, which follows the words of
 * the document as directly as it can and spares nothing.
 */
public final class ReferenceTest {
    private static final int BAD = -2, STATE = -3, FULL = -4, NONE = -1;
    private static final int RUNS = 400;
    private static final int CALLS = 256;

    /** A state, never changed after it has been made the latest one of a history. */
    private static final class State {
        int width = 1;
        int height = 1;
        int[][] image = new int[1][1];
        List<int[]> palette = new ArrayList<>();
        int metric = 0;
        int[][] indices = null;

        State copy() {
            State s = new State();
            s.width = width;
            s.height = height;
            s.image = copyOf(image);
            for (int[] entry : palette) {
                s.palette.add(entry.clone());
            }
            s.metric = metric;
            s.indices = indices == null ? null : copyOf(indices);
            return s;
        }

        private static int[][] copyOf(int[][] rows) {
            int[][] copy = new int[rows.length][];
            for (int i = 0; i < rows.length; i++) {
                copy[i] = rows[i].clone();
            }
            return copy;
        }
    }

    private static final class Reference {
        State s = new State();
        final Deque<State> history = new ArrayDeque<>();
        String text = "";

        private void change(boolean discard) {
            history.addLast(s.copy());
            if (history.size() > 10) {
                history.removeFirst();
            }
            if (discard) {
                s.indices = null;
            }
        }

        private static int[] rgb(int color) {
            return new int[] {color / 65536, color / 256 % 256, color % 256};
        }

        private static int color(int[] c) {
            return c[0] * 65536 + c[1] * 256 + c[2];
        }

        private static boolean isColor(int color) {
            return color >= 0 && color <= 0xFFFFFF;
        }

        private int distance(int a, int b) {
            int[] p = rgb(a);
            int[] q = rgb(b);
            int[] weights = s.metric == 0 ? new int[] {1, 1, 1} : new int[] {2, 4, 3};
            int sum = 0;
            for (int c = 0; c < 3; c++) {
                sum += weights[c] * (p[c] - q[c]) * (p[c] - q[c]);
            }
            return sum;
        }

        private int nearestIn(List<int[]> palette, int color) {
            int best = NONE;
            for (int e = palette.size() - 1; e >= 0; e--) {
                if (best == NONE || distance(color, palette.get(e)[0]) <= distance(color, palette.get(best)[0])) {
                    best = e;
                }
            }
            return best;
        }

        private List<Integer> opaque() {
            List<Integer> all = new ArrayList<>();
            for (int[] row : s.image) {
                for (int color : row) {
                    if (color != NONE) {
                        all.add(color);
                    }
                }
            }
            return all;
        }

        private int bestErrorOf(List<int[]> palette) {
            int sum = 0;
            for (int color : opaque()) {
                sum += distance(color, palette.get(nearestIn(palette, color))[0]);
            }
            return sum;
        }

        private boolean inImage(int x, int y) {
            return x >= 0 && y >= 0 && x < s.width && y < s.height;
        }

        private boolean isEntry(int e) {
            return e >= 0 && e < s.palette.size();
        }

        private static int mean(List<Integer> colors) {
            int[] means = new int[3];
            for (int c = 0; c < 3; c++) {
                int sum = 0;
                for (int color : colors) {
                    sum += rgb(color)[c];
                }
                means[c] = Math.floorDiv(2 * sum + colors.size(), 2 * colors.size());
            }
            return color(means);
        }

        private TreeMap<Integer, Integer> histogram() {
            TreeMap<Integer, Integer> map = new TreeMap<>();
            for (int color : opaque()) {
                map.merge(color, 1, Integer::sum);
            }
            return map;
        }

        int image(int w, int h) {
            if (w < 1 || h < 1 || w > 16 || h > 16) {
                return BAD;
            }
            change(true);
            s.width = w;
            s.height = h;
            s.image = new int[h][w];
            return w * h;
        }

        int paint(int x, int y, int w, int h, int color) {
            if (!inImage(x, y) || w < 1 || h < 1 || (long) x + w > s.width || (long) y + h > s.height
                    || !(color == NONE || isColor(color))) {
                return BAD;
            }
            change(true);
            for (int j = y; j < y + h; j++) {
                for (int i = x; i < x + w; i++) {
                    s.image[j][i] = color;
                }
            }
            return w * h;
        }

        int gradient(int from, int to, boolean vertical) {
            if (!isColor(from) || !isColor(to)) {
                return BAD;
            }
            change(true);
            for (int y = 0; y < s.height; y++) {
                for (int x = 0; x < s.width; x++) {
                    int i = vertical ? y : x;
                    int n = vertical ? s.height : s.width;
                    int[] value = new int[3];
                    for (int c = 0; c < 3; c++) {
                        int a = rgb(from)[c];
                        int b = rgb(to)[c];
                        int size = n == 1 ? 0 : Math.abs(b - a) * i / (n - 1);
                        value[c] = b >= a ? a + size : a - size;
                    }
                    s.image[y][x] = color(value);
                }
            }
            return s.width * s.height;
        }

        int noise(int seed, int amount) {
            if (seed < 0 || amount < 1 || amount > 64) {
                return BAD;
            }
            change(true);
            BigInteger x = BigInteger.valueOf(seed);
            BigInteger modulus = BigInteger.ONE.shiftLeft(31);
            int number = 0;
            for (int[] row : s.image) {
                for (int i = 0; i < row.length; i++) {
                    if (row[i] == NONE) {
                        continue;
                    }
                    number++;
                    int[] value = rgb(row[i]);
                    for (int c = 0; c < 3; c++) {
                        x = x.multiply(BigInteger.valueOf(1103515245)).add(BigInteger.valueOf(12345)).mod(modulus);
                        value[c] += x.divide(BigInteger.valueOf(65536)).mod(BigInteger.valueOf(2 * amount + 1)).intValue();
                        value[c] -= amount;
                        value[c] = value[c] < 0 ? 0 : value[c] > 255 ? 255 : value[c];
                    }
                    row[i] = color(value);
                }
            }
            return number;
        }

        int pixel(int x, int y) {
            return inImage(x, y) ? s.image[y][x] : BAD;
        }

        int colors() {
            return histogram().size();
        }

        int color(int k, int what) {
            if (k < 0 || what < 0 || what > 1) {
                return BAD;
            }
            List<Map.Entry<Integer, Integer>> all = new ArrayList<>(histogram().entrySet());
            all.sort(Map.Entry.<Integer, Integer>comparingByValue().reversed().thenComparing(Map.Entry.comparingByKey()));
            return k >= all.size() ? NONE : what == 0 ? all.get(k).getKey() : all.get(k).getValue();
        }

        int add(int color, boolean locked) {
            if (!isColor(color)) {
                return BAD;
            }
            if (s.palette.size() == 16) {
                return FULL;
            }
            change(true);
            s.palette.add(new int[] {color, locked ? 1 : 0});
            return s.palette.size() - 1;
        }

        int remove(int e) {
            if (!isEntry(e)) {
                return BAD;
            }
            if (s.palette.get(e)[1] == 1) {
                return STATE;
            }
            change(true);
            return s.palette.remove(e)[0];
        }

        int lock(int e, boolean on) {
            if (!isEntry(e)) {
                return BAD;
            }
            change(false);
            int before = s.palette.get(e)[1];
            s.palette.get(e)[1] = on ? 1 : 0;
            return before;
        }

        int swap(int e, int f) {
            if (!isEntry(e) || !isEntry(f)) {
                return BAD;
            }
            change(false);
            int answer = s.palette.get(e)[0];
            List<int[]> before = new ArrayList<>(s.palette);
            s.palette.set(e, before.get(f));
            s.palette.set(f, before.get(e));
            followEntries(before);
            return answer;
        }

        /** Gives each index the new number of the entry that it named. */
        private void followEntries(List<int[]> before) {
            if (s.indices == null) {
                return;
            }
            for (int y = 0; y < s.height; y++) {
                for (int x = 0; x < s.width; x++) {
                    if (s.image[y][x] != NONE) {
                        int[] entry = before.get(s.indices[y][x]);
                        s.indices[y][x] = numberOf(entry);
                    }
                }
            }
        }

        private int numberOf(int[] entry) {
            for (int e = 0; e < s.palette.size(); e++) {
                if (s.palette.get(e) == entry) {
                    return e;
                }
            }
            throw new IllegalStateException("a lost entry");
        }

        int setMetric(int metric) {
            if (metric != 0 && metric != 1) {
                return BAD;
            }
            change(false);
            int before = s.metric;
            s.metric = metric;
            return before;
        }

        int entry(int e, int what) {
            if (!isEntry(e) || what < 0 || what > 3) {
                return BAD;
            }
            if (what < 2) {
                return s.palette.get(e)[what];
            }
            int number = 0;
            if (what == 2) {
                for (int color : opaque()) {
                    number += nearestIn(s.palette, color) == e ? 1 : 0;
                }
                return number;
            }
            for (int index : allIndices()) {
                number += index == e ? 1 : 0;
            }
            return number;
        }

        private List<Integer> allIndices() {
            List<Integer> all = new ArrayList<>();
            if (s.indices != null) {
                for (int[] row : s.indices) {
                    for (int index : row) {
                        all.add(index);
                    }
                }
            }
            return all;
        }

        int nearest(int color) {
            return isColor(color) ? nearestIn(s.palette, color) : BAD;
        }

        int type(int letter) {
            if (letter < 0 || letter > 127) {
                return BAD;
            }
            if (text.length() == 140) {
                return FULL;
            }
            text += (char) letter;
            return text.length();
        }

        int clearText() {
            int before = text.length();
            text = "";
            return before;
        }

        /** Reads the text; leaves the entries of a text without fault in the list. */
        private int read(List<int[]> entries) {
            int i = 0;
            while (true) {
                while (i < text.length() && " ,".indexOf(text.charAt(i)) >= 0) {
                    i++;
                }
                if (i == text.length()) {
                    return NONE;
                }
                if (text.charAt(i) != '#' || entries.size() == 16) {
                    return i;
                }
                i++;
                String digits = "";
                while (i < text.length() && digits.length() < 6
                        && "0123456789abcdefABCDEF".indexOf(text.charAt(i)) >= 0) {
                    digits += text.charAt(i);
                    i++;
                }
                if (digits.length() == 3) {
                    digits = digits.replaceAll("(.)", "$1$1");
                } else if (digits.length() != 6) {
                    return i;
                }
                boolean locked = i < text.length() && text.charAt(i) == '!';
                i += locked ? 1 : 0;
                entries.add(new int[] {Integer.parseInt(digits, 16), locked ? 1 : 0});
            }
        }

        int fault() {
            return read(new ArrayList<>());
        }

        int load() {
            List<int[]> entries = new ArrayList<>();
            if (read(entries) != NONE) {
                return STATE;
            }
            change(true);
            s.palette = entries;
            text = "";
            return entries.size();
        }

        private static int range(List<Integer> box, int c) {
            int least = box.stream().mapToInt(color -> rgb(color)[c]).min().getAsInt();
            int greatest = box.stream().mapToInt(color -> rgb(color)[c]).max().getAsInt();
            return greatest - least;
        }

        private static long measure(List<Integer> box, int rule) {
            if (rule == 0) {
                return box.size();
            }
            if (rule == 1) {
                return Math.max(range(box, 0), Math.max(range(box, 1), range(box, 2)));
            }
            long total = 0;
            for (int c = 0; c < 3; c++) {
                long sum = 0;
                long squares = 0;
                for (int color : box) {
                    long value = rgb(color)[c];
                    sum += value;
                    squares += value * value;
                }
                total += box.size() * squares - sum * sum;
            }
            return total;
        }

        /** Boxes hold each pixel here, not only each color. */
        private static void split(List<List<Integer>> boxes, int chosen) {
            List<Integer> box = boxes.get(chosen);
            int channel = 0;
            for (int c = 2; c >= 0; c--) {
                if (range(box, c) >= Math.max(range(box, 0), Math.max(range(box, 1), range(box, 2)))) {
                    channel = c;
                }
            }
            int by = channel;
            List<Integer> colors = new ArrayList<>(new TreeSet<>(box));
            colors.sort(Comparator.comparingInt(color -> rgb(color)[by]));
            List<Integer> lower = new ArrayList<>();
            List<Integer> upper = new ArrayList<>();
            for (int k = 0; k < colors.size(); k++) {
                boolean up = 2 * lower.size() >= box.size() || (k > 0 && k == colors.size() - 1);
                for (int color : box) {
                    if (color == colors.get(k)) {
                        (up ? upper : lower).add(color);
                    }
                }
            }
            boxes.set(chosen, lower);
            boxes.add(upper);
        }

        int build(int n, int rule) {
            if (n < 1 || n > 16 || rule < 0 || rule > 2) {
                return BAD;
            }
            List<int[]> locked = new ArrayList<>();
            for (int[] entry : s.palette) {
                if (entry[1] == 1) {
                    locked.add(entry.clone());
                }
            }
            if (locked.size() > n) {
                return STATE;
            }
            change(true);
            s.palette = locked;
            List<Integer> free = opaque();
            free.removeIf(color -> locked.stream().anyMatch(entry -> entry[0] == color));
            List<List<Integer>> boxes = new ArrayList<>();
            int most = n - locked.size();
            if (!free.isEmpty() && most > 0) {
                boxes.add(free);
            }
            while (boxes.size() < most) {
                int chosen = NONE;
                for (int b = 0; b < boxes.size(); b++) {
                    if (new TreeSet<>(boxes.get(b)).size() >= 2
                            && (chosen == NONE || measure(boxes.get(b), rule) > measure(boxes.get(chosen), rule))) {
                        chosen = b;
                    }
                }
                if (chosen == NONE) {
                    break;
                }
                split(boxes, chosen);
            }
            for (List<Integer> box : boxes) {
                s.palette.add(new int[] {mean(box), 0});
            }
            return s.palette.size();
        }

        int refine(int rounds) {
            if (rounds < 1 || rounds > 20) {
                return BAD;
            }
            if (s.palette.isEmpty()) {
                return STATE;
            }
            change(true);
            int changed = 0;
            for (int round = 0; round < rounds; round++) {
                List<int[]> before = s.copy().palette;
                boolean any = false;
                for (int e = 0; e < before.size(); e++) {
                    List<Integer> mine = new ArrayList<>();
                    for (int color : opaque()) {
                        if (nearestIn(before, color) == e) {
                            mine.add(color);
                        }
                    }
                    if (before.get(e)[1] == 0 && !mine.isEmpty()) {
                        s.palette.get(e)[0] = mean(mine);
                        any |= s.palette.get(e)[0] != before.get(e)[0];
                    }
                }
                if (!any) {
                    break;
                }
                changed++;
            }
            return changed;
        }

        int merge(int n) {
            if (n < 1 || n > 16) {
                return BAD;
            }
            change(true);
            while (s.palette.size() > n) {
                long[] p = new long[s.palette.size()];
                for (int e = 0; e < p.length; e++) {
                    p[e] = entry(e, 2);
                }
                int[] pair = null;
                BigInteger least = null;
                for (int i = 0; i < p.length; i++) {
                    for (int j = i + 1; j < p.length; j++) {
                        int[] a = s.palette.get(i);
                        int[] b = s.palette.get(j);
                        if (a[1] + b[1] == 2) {
                            continue;
                        }
                        BigInteger cost = p[i] + p[j] == 0 ? BigInteger.ZERO
                                : BigInteger.valueOf(p[i]).multiply(BigInteger.valueOf(p[j]))
                                        .multiply(BigInteger.valueOf(distance(a[0], b[0])))
                                        .divide(BigInteger.valueOf(p[i] + p[j]));
                        if (least == null || cost.compareTo(least) < 0) {
                            least = cost;
                            pair = new int[] {i, j};
                        }
                    }
                }
                if (pair == null) {
                    break;
                }
                int[] a = s.palette.get(pair[0]);
                int[] b = s.palette.remove(pair[1]);
                s.palette.set(pair[0], merged(a, b, (int) p[pair[0]], (int) p[pair[1]]));
            }
            return s.palette.size();
        }

        private static int[] merged(int[] a, int[] b, int p, int q) {
            if (a[1] == 1 || (b[1] == 0 && p + q == 0)) {
                return a;
            }
            if (b[1] == 1) {
                return b;
            }
            int[] value = new int[3];
            for (int c = 0; c < 3; c++) {
                value[c] = (2 * (p * rgb(a[0])[c] + q * rgb(b[0])[c]) + p + q) / (2 * (p + q));
            }
            return new int[] {color(value), 0};
        }

        int sort(int order) {
            if (order < 0 || order > 2) {
                return BAD;
            }
            change(false);
            List<int[]> before = new ArrayList<>(s.palette);
            List<int[]> free = new ArrayList<>();
            List<Integer> numbers = new ArrayList<>();
            List<int[]> keyed = new ArrayList<>();
            for (int e = 0; e < before.size(); e++) {
                if (before.get(e)[1] == 0) {
                    int[] c = rgb(before.get(e)[0]);
                    free.add(before.get(e));
                    numbers.add(e);
                    keyed.add(new int[] {order == 0 ? 2 * c[0] + 5 * c[1] + c[2] : -entry(e, 2), e});
                }
            }
            List<int[]> sorted = new ArrayList<>();
            if (order < 2) {
                keyed.sort(Comparator.comparingInt(pair -> pair[0]));
                for (int[] pair : keyed) {
                    sorted.add(before.get(pair[1]));
                }
            } else {
                while (!free.isEmpty()) {
                    int[] last = sorted.isEmpty() ? null : sorted.get(sorted.size() - 1);
                    ToIntFunction<int[]> key = entry -> last == null ? entry[0] : distance(last[0], entry[0]);
                    int[] next = free.get(0);
                    for (int[] entry : free) {
                        next = key.applyAsInt(entry) < key.applyAsInt(next) ? entry : next;
                    }
                    sorted.add(next);
                    free.remove(next);
                }
            }
            int moved = 0;
            for (int k = 0; k < sorted.size(); k++) {
                moved += before.get(numbers.get(k)) == sorted.get(k) ? 0 : 1;
                s.palette.set(numbers.get(k), sorted.get(k));
            }
            followEntries(before);
            return moved;
        }

        private static int limit(int value) {
            return value < 0 ? 0 : Math.min(value, 255);
        }

        int map(int method, int strength) {
            if (method < 0 || method > 3 || strength < 0 || strength > 64) {
                return BAD;
            }
            if (s.palette.isEmpty()) {
                return STATE;
            }
            change(false);
            s.indices = new int[s.height][s.width];
            for (int[] row : s.indices) {
                java.util.Arrays.fill(row, s.palette.size());
            }
            if (method < 2) {
                mapPixelwise(method, strength);
            } else {
                mapByDiffusion(method);
            }
            TreeSet<Integer> used = new TreeSet<>(allIndices());
            used.remove(s.palette.size());
            return used.size();
        }

        private void mapPixelwise(int method, int strength) {
            int[][] matrix = {{0, 8, 2, 10}, {12, 4, 14, 6}, {3, 11, 1, 9}, {15, 7, 13, 5}};
            for (int y = 0; y < s.height; y++) {
                for (int x = 0; x < s.width; x++) {
                    if (s.image[y][x] == NONE) {
                        continue;
                    }
                    int[] value = rgb(s.image[y][x]);
                    for (int c = 0; c < 3 && method == 1; c++) {
                        value[c] = limit(value[c] + (2 * matrix[y % 4][x % 4] - 15) * strength / 16);
                    }
                    s.indices[y][x] = nearestIn(s.palette, color(value));
                }
            }
        }

        private static int down(int value, int divisor) {
            return (int) Math.floor((double) value / divisor);
        }

        private void mapByDiffusion(int method) {
            // A margin of 2 takes the parts that fall outside.
            int[][][] sums = new int[s.height + 4][s.width + 4][3];
            for (int y = 0; y < s.height; y++) {
                for (int x = 0; x < s.width; x++) {
                    for (int c = 0; c < 3; c++) {
                        sums[y + 2][x + 2][c] = s.image[y][x] == NONE ? -12345 : 16 * rgb(s.image[y][x])[c];
                    }
                }
            }
            for (int y = 0; y < s.height; y++) {
                int d = y % 2 == 0 ? 1 : -1;
                for (int x = d > 0 ? 0 : s.width - 1; x >= 0 && x < s.width; x += d) {
                    if (s.image[y][x] == NONE) {
                        continue;
                    }
                    int[] sum = sums[y + 2][x + 2];
                    int[] value = new int[3];
                    for (int c = 0; c < 3; c++) {
                        value[c] = limit(down(sum[c] + 8, 16));
                    }
                    int chosen = nearestIn(s.palette, color(value));
                    s.indices[y][x] = chosen;
                    for (int c = 0; c < 3; c++) {
                        int e = sum[c] - 16 * rgb(s.palette.get(chosen)[0])[c];
                        if (method == 2) {
                            sums[y + 2][x + 2 + d][c] += down(7 * e, 16);
                            sums[y + 3][x + 2 - d][c] += down(3 * e, 16);
                            sums[y + 3][x + 2][c] += down(5 * e, 16);
                            sums[y + 3][x + 2 + d][c] += e - down(7 * e, 16) - down(3 * e, 16) - down(5 * e, 16);
                        } else {
                            int[][] places = {{d, 0}, {2 * d, 0}, {-1, 1}, {0, 1}, {1, 1}, {0, 2}};
                            for (int[] place : places) {
                                sums[y + 2 + place[1]][x + 2 + place[0]][c] += down(e, 8);
                            }
                        }
                    }
                }
            }
        }

        int index(int x, int y) {
            return !inImage(x, y) ? BAD : s.indices == null ? STATE : s.indices[y][x];
        }

        private int errorAt(int x, int y) {
            return s.image[y][x] == NONE ? NONE : distance(s.image[y][x], s.palette.get(s.indices[y][x])[0]);
        }

        int error() {
            if (s.indices == null) {
                return STATE;
            }
            int sum = 0;
            for (int y = 0; y < s.height; y++) {
                for (int x = 0; x < s.width; x++) {
                    sum += Math.max(0, errorAt(x, y));
                }
            }
            return sum;
        }

        int worst() {
            if (s.indices == null) {
                return STATE;
            }
            int worst = NONE;
            int greatest = 0;
            for (int y = s.height - 1; y >= 0; y--) {
                for (int x = s.width - 1; x >= 0; x--) {
                    if (errorAt(x, y) >= greatest) {
                        worst = 16 * y + x;
                        greatest = errorAt(x, y);
                    }
                }
            }
            return worst;
        }

        int meanError() {
            if (s.indices == null) {
                return STATE;
            }
            return opaque().isEmpty() ? NONE : Float.floatToIntBits((float) error() / (float) opaque().size());
        }

        int runs() {
            if (s.indices == null) {
                return STATE;
            }
            int runs = 0;
            int last = NONE;
            for (int index : allIndices()) {
                runs += index == last ? 0 : 1;
                last = index;
            }
            return runs;
        }

        int packed(int k) {
            if (k < -1) {
                return BAD;
            }
            if (s.indices == null) {
                return STATE;
            }
            int bits = 1;
            for (int index : allIndices()) {
                while (index >= 1 << bits) {
                    bits *= 2;
                }
            }
            List<Integer> bytes = new ArrayList<>();
            for (int[] row : s.indices) {
                String line = "";
                for (int index : row) {
                    String binary = "00000000" + Integer.toBinaryString(index);
                    line += binary.substring(binary.length() - bits);
                }
                while (line.length() % 8 != 0) {
                    line += "0";
                }
                for (int i = 0; i < line.length(); i += 8) {
                    bytes.add(Integer.parseInt(line.substring(i, i + 8), 2));
                }
            }
            return k == -1 ? bytes.size() : k < bytes.size() ? bytes.get(k) : NONE;
        }

        int bestError() {
            return opaque().isEmpty() ? 0 : s.palette.isEmpty() ? STATE : bestErrorOf(s.palette);
        }

        int loss(int e) {
            if (!isEntry(e)) {
                return BAD;
            }
            if (s.palette.size() == 1) {
                return STATE;
            }
            List<int[]> fewer = new ArrayList<>(s.palette);
            fewer.remove(e);
            return bestErrorOf(fewer) - bestErrorOf(s.palette);
        }

        int cheapest() {
            if (s.palette.size() < 2) {
                return STATE;
            }
            int best = NONE;
            for (int e = 0; e < s.palette.size(); e++) {
                if (s.palette.get(e)[1] == 0 && (best == NONE || loss(e) < loss(best))) {
                    best = e;
                }
            }
            return best;
        }

        int gain(int color) {
            if (!isColor(color)) {
                return BAD;
            }
            if (s.palette.isEmpty()) {
                return STATE;
            }
            List<int[]> more = new ArrayList<>(s.palette);
            more.add(new int[] {color, 0});
            return bestErrorOf(s.palette) - bestErrorOf(more);
        }

        int bestAddition() {
            if (s.palette.isEmpty()) {
                return STATE;
            }
            int best = NONE;
            int greatest = NONE;
            for (int color : histogram().keySet()) {
                int gain = gain(color);
                if (gain > greatest) {
                    best = color;
                    greatest = gain;
                }
            }
            return best;
        }

        int undo() {
            if (history.isEmpty()) {
                return STATE;
            }
            s = history.removeLast();
            return history.size();
        }

        int count(int what) {
            int opaque = opaque().size();
            int locked = 0;
            for (int[] entry : s.palette) {
                locked += entry[1];
            }
            int[] all = {s.width, s.height, opaque, s.width * s.height - opaque, s.palette.size(), locked, s.metric,
                s.indices == null ? 0 : 1, history.size(), text.length()};
            return what < 0 || what > 9 ? BAD : all[what];
        }

        long digest() {
            List<Integer> values = new ArrayList<>();
            for (int what = 0; what < 10; what++) {
                values.add(count(what));
            }
            for (int y = 0; y < s.height; y++) {
                for (int x = 0; x < s.width; x++) {
                    values.add(pixel(x, y));
                }
            }
            for (int e = 0; e < s.palette.size(); e++) {
                for (int what = 0; what < 4; what++) {
                    values.add(entry(e, what));
                }
            }
            if (s.indices != null) {
                values.addAll(allIndices());
                values.addAll(List.of(error(), worst(), meanError(), runs()));
            }
            for (char letter : text.toCharArray()) {
                values.add((int) letter);
            }
            long h = 77;
            for (int value : values) {
                h = 31 * h + value;
            }
            return h;
        }
    }

    private static final int[] STRANGE = {-1, -2, -3, 0, 1, 2, 3, 4, 15, 16, 17, 64, 65, 127, 128, 255, 256, 16777215,
        16777216, Integer.MAX_VALUE, Integer.MIN_VALUE, Integer.MAX_VALUE - 1, -16777216};

    private final Random random;
    private final Reference due = new Reference();
    private final PaletteBuilder built = new PaletteBuilder();
    private final int[] someColors = new int[6];
    private final int strangeness;
    private final boolean broad;
    private int wrong = 0;

    private ReferenceTest(int seed) {
        random = new Random(seed);
        for (int i = 0; i < someColors.length; i++) {
            someColors[i] = random.nextInt(1 << 24) & (seed % 3 == 0 ? 0xF0F0F0 : 0xFFFFFF);
        }
        strangeness = seed % 4 == 0 ? 5 : 60;
        broad = seed % 2 == 0;
        if (seed % 10 == 3) {
            fillUp(seed);
        }
    }

    /** Goes to the limits: an image of 256 pixels with as many colors, and 16 entries. */
    private void fillUp(int seed) {
        compare("image(16,16)", built.image(16, 16), due.image(16, 16));
        compare("gradient", built.gradient(0x404040, 0xC0C0C0, false), due.gradient(0x404040, 0xC0C0C0, false));
        compare("noise", built.noise(seed, 64), due.noise(seed, 64));
        compare("colors()", built.colors(), due.colors());
        for (int k = 0; k <= 256; k++) {
            compare("color(" + k + ",0)", built.color(k, 0), due.color(k, 0));
        }
        for (int rule = 0; rule < 3; rule++) {
            compare("build(16," + rule + ")", built.build(16, rule), due.build(16, rule));
            compare("refine(3)", built.refine(3), due.refine(3));
            compare("map(" + rule + ",20)", built.map(rule, 20), due.map(rule, 20));
            compare("sort(" + rule + ")", built.sort(rule), due.sort(rule));
            compare("digest()", built.digest(), due.digest());
            compare("bestAddition()", built.bestAddition(), due.bestAddition());
            compare("cheapest()", built.cheapest(), due.cheapest());
        }
        compare("map(3,0)", built.map(3, 0), due.map(3, 0));
        compare("packed(255)", built.packed(255), due.packed(255));
        compare("digest()", built.digest(), due.digest());
        compare("merge(9)", built.merge(9), due.merge(9));
        compare("digest()", built.digest(), due.digest());
    }

    private int in(int least, int greatest) {
        if (random.nextInt(strangeness) == 0) {
            return STRANGE[random.nextInt(STRANGE.length)];
        }
        return least + random.nextInt(Math.max(1, greatest - least + 1));
    }

    private int someColor() {
        int kind = random.nextInt(8);
        if (kind == 0) {
            return in(0, 0xFFFFFF);
        }
        if (kind == 1) {
            return due.s.image[random.nextInt(due.s.height)][random.nextInt(due.s.width)];
        }
        if (kind == 2) {
            return random.nextBoolean() ? 0 : 0xFFFFFF;
        }
        return someColors[random.nextInt(someColors.length)];
    }

    private int someEntry() {
        return in(0, due.s.palette.size() - 1);
    }

    private int someX() {
        return in(0, due.s.width - 1);
    }

    private int someY() {
        return in(0, due.s.height - 1);
    }

    private void compare(String call, long got, long want) {
        if (got != want) {
            wrong++;
            System.out.println(call + " answered " + got + ", due is " + want);
        }
    }

    private void call(int run, int number) {
        String call = "run " + run + ", call " + number + ": ";
        int a;
        int b;
        boolean flag = random.nextBoolean();
        switch (random.nextInt(60)) {
            case 0:
                a = in(1, random.nextInt(3) == 0 ? 16 : 5);
                b = in(1, random.nextInt(3) == 0 ? 16 : 5);
                compare(call + "image(" + a + "," + b + ")", built.image(a, b), due.image(a, b));
                break;
            case 1: case 2: case 3: case 4:
                paint(call);
                break;
            case 5:
                a = someColor();
                b = someColor();
                compare(call + "gradient(" + a + "," + b + "," + flag + ")", built.gradient(a, b, flag), due.gradient(a, b, flag));
                break;
            case 6:
                a = in(0, Integer.MAX_VALUE - 1);
                b = in(1, flag ? 64 : 2);
                compare(call + "noise(" + a + "," + b + ")", built.noise(a, b), due.noise(a, b));
                break;
            case 7:
                a = someX();
                b = someY();
                compare(call + "pixel(" + a + "," + b + ")", built.pixel(a, b), due.pixel(a, b));
                break;
            case 8:
                compare(call + "colors()", built.colors(), due.colors());
                break;
            case 9: case 10:
                a = in(0, due.colors());
                b = in(0, 1);
                compare(call + "color(" + a + "," + b + ")", built.color(a, b), due.color(a, b));
                break;
            case 11: case 12: case 13: case 14:
                a = someColor();
                flag = random.nextInt(5) == 0;
                compare(call + "add(" + a + "," + flag + ")", built.add(a, flag), due.add(a, flag));
                break;
            case 15:
                a = someEntry();
                compare(call + "remove(" + a + ")", built.remove(a), due.remove(a));
                break;
            case 16:
                a = someEntry();
                flag = random.nextInt(3) == 0;
                compare(call + "lock(" + a + "," + flag + ")", built.lock(a, flag), due.lock(a, flag));
                break;
            case 17:
                a = someEntry();
                b = someEntry();
                compare(call + "swap(" + a + "," + b + ")", built.swap(a, b), due.swap(a, b));
                break;
            case 18:
                a = in(0, 1);
                compare(call + "setMetric(" + a + ")", built.setMetric(a), due.setMetric(a));
                break;
            case 19: case 20:
                a = someEntry();
                b = in(0, 3);
                compare(call + "entry(" + a + "," + b + ")", built.entry(a, b), due.entry(a, b));
                break;
            case 21:
                a = someColor();
                compare(call + "nearest(" + a + ")", built.nearest(a), due.nearest(a));
                break;
            case 22: case 23: case 24: case 25:
                typeSome(call);
                break;
            case 26:
                compare(call + "clearText()", built.clearText(), due.clearText());
                break;
            case 27: case 28:
                compare(call + "fault()", built.fault(), due.fault());
                break;
            case 29:
                compare(call + "load()", built.load(), due.load());
                break;
            case 30: case 31: case 32:
                a = in(1, broad ? 16 : 5);
                b = in(0, 2);
                compare(call + "build(" + a + "," + b + ")", built.build(a, b), due.build(a, b));
                break;
            case 33:
                a = in(1, 20);
                compare(call + "refine(" + a + ")", built.refine(a), due.refine(a));
                break;
            case 34:
                a = in(1, 16);
                compare(call + "merge(" + a + ")", built.merge(a), due.merge(a));
                break;
            case 35: case 36: case 37:
                a = in(0, 2);
                compare(call + "sort(" + a + ")", built.sort(a), due.sort(a));
                break;
            case 38: case 39: case 40: case 41: case 42:
                a = in(0, 3);
                b = in(0, 64);
                compare(call + "map(" + a + "," + b + ")", built.map(a, b), due.map(a, b));
                break;
            case 43:
                a = someX();
                b = someY();
                compare(call + "index(" + a + "," + b + ")", built.index(a, b), due.index(a, b));
                break;
            case 44:
                compare(call + "error()", built.error(), due.error());
                break;
            case 45:
                compare(call + "worst()", built.worst(), due.worst());
                break;
            case 46:
                compare(call + "meanError()", built.meanError(), due.meanError());
                break;
            case 47:
                compare(call + "runs()", built.runs(), due.runs());
                break;
            case 48: case 49: case 50:
                a = random.nextInt(4) == 0 ? -1 : in(0, Math.max(1, due.packed(-1)));
                compare(call + "packed(" + a + ")", built.packed(a), due.packed(a));
                break;
            case 51:
                compare(call + "bestError()", built.bestError(), due.bestError());
                break;
            case 52:
                a = someEntry();
                compare(call + "loss(" + a + ")", built.loss(a), due.loss(a));
                break;
            case 53:
                compare(call + "cheapest()", built.cheapest(), due.cheapest());
                break;
            case 54:
                a = someColor();
                compare(call + "gain(" + a + ")", built.gain(a), due.gain(a));
                break;
            case 55:
                compare(call + "bestAddition()", built.bestAddition(), due.bestAddition());
                break;
            case 56: case 57:
                undoSome(call);
                break;
            case 58:
                a = in(0, 9);
                compare(call + "count(" + a + ")", built.count(a), due.count(a));
                break;
            default:
                compare(call + "digest()", built.digest(), due.digest());
                break;
        }
    }

    private void paint(String call) {
        int x = someX();
        int y = someY();
        int w = in(1, due.s.width - x);
        int h = in(1, due.s.height - y);
        int color = random.nextInt(6) == 0 ? NONE : someColor();
        compare(call + "paint(" + x + "," + y + "," + w + "," + h + "," + color + ")", built.paint(x, y, w, h, color),
                due.paint(x, y, w, h, color));
    }

    /** Mostly whole entries, so that many texts have no fault. */
    private void typeSome(String call) {
        String letters = "0123456789abcdefABCDEF";
        String some = random.nextInt(3) == 0 ? " " : random.nextInt(3) == 0 ? ",, " : "";
        some += "#";
        int digits = random.nextInt(8) == 0 ? random.nextInt(8) : random.nextBoolean() ? 3 : 6;
        for (int i = 0; i < digits; i++) {
            some += letters.charAt(random.nextInt(letters.length()));
        }
        some += random.nextInt(3) == 0 ? "!" : "";
        if (random.nextInt(10) == 0) {
            some += "gG/:@`!# ,".charAt(random.nextInt(10));
        }
        for (char letter : some.toCharArray()) {
            int typed = random.nextInt(20 * strangeness) == 0 ? in(0, 127) : letter;
            compare(call + "type(" + typed + ")", built.type(typed), due.type(typed));
        }
    }

    private void undoSome(String call) {
        int times = random.nextInt(12) == 0 ? 12 : 1;
        for (int i = 0; i < times; i++) {
            compare(call + "undo()", built.undo(), due.undo());
        }
    }

    public static void main(String[] args) {
        int wrong = 0;
        int runs = args.length > 0 ? Integer.parseInt(args[0]) : RUNS;
        for (int run = 0; run < runs && wrong < 20; run++) {
            ReferenceTest test = new ReferenceTest(run);
            for (int i = 0; i < CALLS && test.wrong == 0; i++) {
                test.call(run, i);
                if (i % 8 == 0) {
                    test.compare("run " + run + ", after call " + i + ": digest()", test.built.digest(), test.due.digest());
                }
            }
            wrong += test.wrong;
        }
        System.out.println(wrong == 0 ? "all answers are as due" : wrong + " answers are not as due");
        if (wrong != 0) {
            System.exit(1);
        }
    }
}
