import java.util.ArrayList;
import java.util.List;
import java.util.Map;
import java.util.TreeMap;

/**
 * The document's words once more, in another form than the program's: it keeps what happened and works
 * everything out anew. It knows no exceptions of its own: `fault` says which one is due.
 */
final class Model {
    static final String INDEX = "java.lang.IndexOutOfBoundsException";
    static final String ARGUMENT = "java.lang.IllegalArgumentException";
    static final String STATE = "java.lang.IllegalStateException";

    int day = 0;
    final List<int[][]> regions = new ArrayList<>();
    final Map<Integer, int[]> weatherToday = new TreeMap<>();
    /** For each day with a bulletin its rows of level, core, problem. */
    final Map<Integer, int[][]> bulletins = new TreeMap<>();
    /** Rows of day, region, sector, size. */
    final List<int[]> avalanches = new ArrayList<>();
    final List<int[]> legs = new ArrayList<>();

    boolean isRegion(int r) {
        return r >= 0 && r < regions.size();
    }

    static boolean isIn(int x, int least, int greatest) {
        return least <= x && x <= greatest;
    }

    static boolean isWeather(int snow, int wind, int from, int temperature) {
        return isIn(snow, 0, 150) && isIn(wind, 0, 120) && isIn(from, 0, 3) && isIn(temperature, -30, 15);
    }

    void endDay() {
        for (int r = 0; r < regions.size(); r++) {
            int[] w = weatherToday.containsKey(r) ? weatherToday.get(r) : new int[] {0, 0, 0, -5};
            regions.set(r, after(regions.get(r), w));
        }
        weatherToday.clear();
        day++;
    }

    /** The sectors when a day with this weather has ended. */
    static int[][] after(int[][] sectors, int[] w) {
        int[][] next = new int[12][];
        for (int s = 0; s < 12; s++) {
            next[s] = sectorAfter(sectors[s], s / 4, s % 4, w[0], w[1], w[2], w[3]);
        }
        return next;
    }

    private static int[] sectorAfter(int[] n, int band, int aspect, int snow, int wind, int from, int told) {
        int t = told + (band == 0 ? 6 : band == 1 ? 0 : -6);
        int f = t <= 1 ? snow : 0;
        int fresh = Math.min(100, n[0] * 6 / 10 + f);
        int drift = n[1];
        int weak = n[2];
        int wet = n[3];
        int hoar = n[4];
        if (t > 1) {
            wet = Math.min(100, wet + snow / 2);
        }
        if (wind >= 25) {
            int g = fresh < 40 ? fresh : 40;
            int by = g * (wind - 20) / 40;
            if (aspect == (from + 2) % 4) {
                drift += by;
            }
            if (aspect == (from + 1) % 4 || aspect == (from + 3) % 4) {
                drift += by / 2;
            }
            drift = Math.min(100, drift);
        } else {
            drift = drift * 8 / 10;
        }
        if (f >= 10) {
            weak = Math.min(100, weak + 15 * hoar);
            hoar = 0;
        } else if (wind >= 40 || t > 0) {
            hoar = 0;
        } else if (f == 0 && wind < 15 && t < -8) {
            hoar = Math.min(10, hoar + 1);
        }
        if (t > 0) {
            weak = weak * 7 / 10;
            wet = Math.min(100, wet + (aspect == 2 ? 8 * t : 4 * t));
        } else {
            weak = weak * 95 / 100;
            wet = wet / 2;
        }
        return new int[] {fresh, drift, weak, wet, hoar};
    }

    static int problemOf(int[] n, int problem) {
        int[] numbers = {n[0], n[1], n[2] * Math.min(100, n[0] + n[1]) / 100, n[3]};
        return numbers[problem];
    }

    static int dangerOf(int[] n) {
        int[] numbers = {problemOf(n, 0), problemOf(n, 1), problemOf(n, 2), problemOf(n, 3)};
        java.util.Arrays.sort(numbers);
        return numbers[3] + numbers[2] / 4;
    }

    static int levelOfSector(int[] n) {
        int danger = dangerOf(n);
        return danger < 10 ? 1 : danger < 30 ? 2 : danger < 55 ? 3 : danger < 80 ? 4 : 5;
    }

    static int levelOf(int[][] sectors) {
        for (int level = 5; level > 1; level--) {
            int those = 0;
            for (int[] n : sectors) {
                those += levelOfSector(n) >= level ? 1 : 0;
            }
            if (those >= 2) {
                return level;
            }
        }
        return 1;
    }

    static int coreOf(int[][] sectors) {
        int sum = 0;
        int level = levelOf(sectors);
        for (int s = 0; s < 12; s++) {
            if (levelOfSector(sectors[s]) >= level) {
                sum += (int) Math.pow(2, s);
            }
        }
        return sum;
    }

    static boolean isInSet(int set, int s) {
        return (set & (1 << s)) != 0;
    }

    static int mainProblemOf(int[][] sectors) {
        int[] sums = new int[4];
        int core = coreOf(sectors);
        for (int s = 0; s < 12; s++) {
            for (int p = 0; p < 4; p++) {
                sums[p] += isInSet(core, s) ? problemOf(sectors[s], p) : 0;
            }
        }
        int most = Math.max(Math.max(sums[0], sums[1]), Math.max(sums[2], sums[3]));
        return sums[0] == most ? 0 : sums[1] == most ? 1 : sums[2] == most ? 2 : 3;
    }

    int publish() {
        int[][] rows = new int[regions.size()][];
        int greatest = 0;
        for (int r = 0; r < rows.length; r++) {
            int[][] n = regions.get(r);
            rows[r] = new int[] {levelOf(n), coreOf(n), mainProblemOf(n)};
            greatest = Math.max(greatest, rows[r][0]);
        }
        bulletins.put(day, rows);
        return greatest;
    }

    boolean tells(int d, int r) {
        return bulletins.containsKey(d) && r >= 0 && r < bulletins.get(d).length;
    }

    int activity(int d, int r) {
        int sum = 0;
        for (int[] a : avalanches) {
            sum += a[0] == d && a[1] == r ? a[3] * a[3] : 0;
        }
        return sum;
    }

    int borneOut(int how) {
        int[] least = {0, 0, 0, 4, 25, 80};
        int[] greatest = {0, 1, 9, 40, 120, Integer.MAX_VALUE};
        int found = 0;
        for (int d : bulletins.keySet()) {
            for (int r = 0; r < bulletins.get(d).length; r++) {
                int level = bulletins.get(d)[r][0];
                int activity = activity(d, r);
                int is = activity < least[level] ? -1 : activity > greatest[level] ? 1 : 0;
                found += is == how ? 1 : 0;
            }
        }
        return found;
    }

    double inCore(int r) {
        int all = 0;
        int inside = 0;
        for (int[] a : avalanches) {
            if (a[1] == r && tells(a[0], r)) {
                all++;
                inside += isInSet(bulletins.get(a[0])[r][1], a[2]) ? 1 : 0;
            }
        }
        return all == 0 ? 1 : (double) inside / all;
    }

    int risk(int r, int leg) {
        int[][] sectors = regions.get(r);
        int[] l = legs.get(leg);
        int risk = 100 * (int) Math.pow(2, levelOf(sectors));
        risk = isInSet(coreOf(sectors), l[0]) ? risk : risk / 4;
        return risk / (l[1] >= 40 ? 1 : l[1] >= 35 ? 2 : l[1] >= 30 ? 4 : 8);
    }

    private int greatestRisk(int r) {
        int greatest = Integer.MIN_VALUE;
        for (int leg = 0; leg < legs.size(); leg++) {
            greatest = Math.max(greatest, risk(r, leg));
        }
        return greatest;
    }

    int worstLeg(int r) {
        int greatest = greatestRisk(r);
        for (int leg = 0; leg < legs.size(); leg++) {
            if (risk(r, leg) == greatest) {
                return leg;
            }
        }
        return -1;
    }

    int bestRegion() {
        if (regions.isEmpty() || legs.isEmpty()) {
            return -1;
        }
        int best = 0;
        for (int r = 1; r < regions.size(); r++) {
            best = greatestRisk(r) < greatestRisk(best) ? r : best;
        }
        return best;
    }

    long digest() {
        long d = 331;
        for (int x : numbers()) {
            d = d * 31 + x;
        }
        return d;
    }

    /** The numbers of the digest, in their order. */
    List<Integer> numbers() {
        List<Integer> numbers = new ArrayList<>();
        numbers.add(day);
        numbers.add(regions.size());
        for (int r = 0; r < regions.size(); r++) {
            int[][] sectors = regions.get(r);
            for (int[] n : sectors) {
                addAll(numbers, n);
            }
            addAll(numbers, levelOf(sectors), coreOf(sectors), mainProblemOf(sectors), activity(day, r));
        }
        for (int d : bulletins.keySet()) {
            numbers.add(d);
            for (int[] row : bulletins.get(d)) {
                addAll(numbers, row);
            }
        }
        numbers.add(avalanches.size());
        numbers.add(legs.size());
        for (int[] leg : legs) {
            addAll(numbers, leg);
        }
        return numbers;
    }

    private static void addAll(List<Integer> list, int... numbers) {
        for (int x : numbers) {
            list.add(x);
        }
    }
}
