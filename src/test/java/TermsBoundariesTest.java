import java.util.Arrays;

/**
 * The document's "Terms", each sentence that names a boundary: what a day's end makes of one sector's numbers,
 * and danger, level, core and problem at the edges of their words. All due answers are worked out by hand.
 */
public final class TermsBoundariesTest {
    private static final int NORTH_MIDDLE = 4;
    private static final int SOUTH_MIDDLE = 6;

    public static void main(String[] args) {
        greatestNumbers();
        bandsAndAspects();
        snowOrRain();
        settlingOfFresh();
        rainMakesWet();
        windBeginsToDrift();
        leastOfFreshAnd40();
        driftIsCutAndCapped();
        driftTurnsWithTheWind();
        tenOfSnowBuryHoar();
        windAndWarmthTakeHoar();
        hoarGrows();
        weakAndWetAtZeroDegrees();
        warmestAndColdestDays();
        noWeatherTold();
        weakLayer();
        dangerOfTwoNumbers();
        levelsOfDanger();
        levelNeedsTwoSectors();
        coreBeginsAtTheLevel();
        firstOfEqualProblems();
        Check.finish();
    }

    private static int[] numbers(int fresh, int drift, int weak, int wet, int hoar) {
        return new int[] {fresh, drift, weak, wet, hoar};
    }

    private static int[] weather(int snow, int wind, int from, int temperature) {
        return new int[] {snow, wind, from, temperature};
    }

    private static void set(AvalancheDesk desk, int sector, int... values) {
        for (int what = 0; what < values.length; what++) {
            desk.set(0, sector, what, values[what]);
        }
    }

    private static int[] read(AvalancheDesk desk, int sector) {
        int[] values = new int[5];
        for (int what = 0; what < 5; what++) {
            values[what] = desk.sector(0, sector, what);
        }
        return values;
    }

    /** A sector with these numbers has the others when a day with this weather has ended; no other sector matters. */
    private static void due(String name, int sector, int[] before, int[] weather, int[] after) {
        AvalancheDesk desk = Edge.deskWith(1);
        set(desk, sector, before);
        desk.weather(0, weather[0], weather[1], weather[2], weather[3]);
        desk.end();
        int[] got = read(desk, sector);
        if (!Arrays.equals(got, after)) {
            Check.fault(name + ": sector " + sector + " has " + Arrays.toString(got) + ", due is "
                + Arrays.toString(after));
        }
    }

    /** "A number that would be greater than its greatest one is this." */
    private static void greatestNumbers() {
        int[] cold = weather(0, 0, 0, -5);
        due("fresh just below its greatest", 4, numbers(100, 0, 0, 0, 0), weather(39, 0, 0, -5),
            numbers(99, 0, 0, 0, 0));
        due("fresh comes to its greatest", 4, numbers(100, 0, 0, 0, 0), weather(40, 0, 0, -5),
            numbers(100, 0, 0, 0, 0));
        due("fresh would be greater", 4, numbers(100, 0, 0, 0, 0), weather(41, 0, 0, -5), numbers(100, 0, 0, 0, 0));
        due("drift just below its greatest", 6, numbers(0, 59, 0, 0, 0), weather(40, 60, 0, -5),
            numbers(40, 99, 0, 0, 0));
        due("drift comes to its greatest", 6, numbers(0, 60, 0, 0, 0), weather(40, 60, 0, -5),
            numbers(40, 100, 0, 0, 0));
        due("drift would be greater", 6, numbers(0, 61, 0, 0, 0), weather(40, 60, 0, -5),
            numbers(40, 100, 0, 0, 0));
        due("weak comes to 99, then settles", 4, numbers(0, 0, 9, 0, 6), weather(10, 0, 0, -5),
            numbers(10, 0, 94, 0, 0));
        due("weak comes to its greatest, then settles", 4, numbers(0, 0, 10, 0, 6), weather(10, 0, 0, -5),
            numbers(10, 0, 95, 0, 0));
        due("weak would be greater, then settles", 4, numbers(0, 0, 12, 0, 6), weather(10, 0, 0, -5),
            numbers(10, 0, 95, 0, 0));
        due("wet just below its greatest", 4, numbers(0, 0, 0, 89, 0), weather(4, 0, 0, 2), numbers(0, 0, 0, 99, 0));
        due("wet comes to its greatest", 4, numbers(0, 0, 0, 90, 0), weather(4, 0, 0, 2), numbers(0, 0, 0, 100, 0));
        due("wet would be greater", 4, numbers(0, 0, 0, 91, 0), weather(4, 0, 0, 2), numbers(0, 0, 0, 100, 0));
        due("hoar comes to its greatest", 8, numbers(0, 0, 0, 0, 9), cold, numbers(0, 0, 0, 0, 10));
        due("hoar would be greater", 8, numbers(0, 0, 0, 0, 10), cold, numbers(0, 0, 0, 0, 10));
    }

    /** "Sector s has the band s / 4 .. and the aspect s % 4": the first and the last sector of each. */
    private static void bandsAndAspects() {
        int[] before = numbers(0, 0, 0, 0, 1);
        int[] usual = weather(0, 0, 0, -5);
        due("the first of the low band", 0, before, usual, numbers(0, 0, 0, 4, 0));
        due("the last of the low band", 3, before, usual, numbers(0, 0, 0, 4, 0));
        due("the first of the middle band", 4, before, usual, numbers(0, 0, 0, 0, 1));
        due("the last of the middle band", 7, before, usual, numbers(0, 0, 0, 0, 1));
        due("the first of the high band", 8, before, usual, numbers(0, 0, 0, 0, 2));
        due("the last of the high band", 11, before, usual, numbers(0, 0, 0, 0, 2));
        int[] none = numbers(0, 0, 0, 0, 0);
        int[] warm = weather(0, 0, 0, 7);
        for (int s = 0; s < 12; s++) {
            int perDegree = s == 2 || s == 6 || s == 10 ? 8 : 4;
            int t = s < 4 ? 13 : s < 8 ? 7 : 1;
            due("wet on each aspect", s, none, warm, numbers(0, 0, 0, Math.min(100, perDegree * t), 0));
        }
    }

    /** "Snow that falls is f: the snow told, if t is at most 1, otherwise 0", in each band. */
    private static void snowOrRain() {
        int[] none = numbers(0, 0, 0, 0, 0);
        int[][] lastSnow = {{0, -5}, {4, 1}, {8, 7}};
        for (int[] at : lastSnow) {
            due("snow at t 1", at[0], none, weather(20, 0, 0, at[1]), numbers(20, 0, 0, 4, 0));
            due("rain at t 2", at[0], none, weather(20, 0, 0, at[1] + 1), numbers(0, 0, 0, 18, 0));
        }
        due("rain buries no hoar", 4, numbers(0, 0, 0, 0, 5), weather(150, 0, 0, 2), numbers(0, 0, 0, 83, 0));
    }

    /** "Fresh becomes fresh * 6 / 10 + f", cut. */
    private static void settlingOfFresh() {
        int[] quiet = weather(0, 0, 0, -5);
        due("1 of fresh is gone", 4, numbers(1, 0, 0, 0, 0), quiet, numbers(0, 0, 0, 0, 0));
        due("9 * 6 / 10", 4, numbers(9, 0, 0, 0, 0), quiet, numbers(5, 0, 0, 0, 0));
        due("10 * 6 / 10", 4, numbers(10, 0, 0, 0, 0), quiet, numbers(6, 0, 0, 0, 0));
        due("99 * 6 / 10 + 1, cut before it grows", 4, numbers(99, 0, 0, 0, 0), weather(1, 0, 0, -5),
            numbers(60, 0, 0, 0, 0));
        due("the greatest snow", 4, numbers(0, 0, 0, 0, 0), weather(150, 0, 0, -5), numbers(100, 0, 0, 0, 0));
    }

    /** "If t is greater than 1, wet becomes greater by the snow told / 2", cut. */
    private static void rainMakesWet() {
        int[] none = numbers(0, 0, 0, 0, 0);
        due("no rain", 4, none, weather(0, 0, 0, 2), numbers(0, 0, 0, 8, 0));
        due("1 / 2", 4, none, weather(1, 0, 0, 2), numbers(0, 0, 0, 8, 0));
        due("3 / 2", 4, none, weather(3, 0, 0, 2), numbers(0, 0, 0, 9, 0));
        due("150 / 2", 4, none, weather(150, 0, 0, 2), numbers(0, 0, 0, 83, 0));
        due("none at t 1", 4, none, weather(150, 0, 0, 1), numbers(100, 0, 0, 4, 0));
    }

    /** "If the wind is at least 25 .. If the wind is less than 25, drift becomes drift * 8 / 10." */
    private static void windBeginsToDrift() {
        int[] before = numbers(0, 9, 0, 0, 0);
        due("wind 24, in the lee", 6, before, weather(40, 24, 0, -5), numbers(40, 7, 0, 0, 0));
        due("wind 24, on from", 4, before, weather(40, 24, 0, -5), numbers(40, 7, 0, 0, 0));
        due("wind 24, beside", 5, before, weather(40, 24, 0, -5), numbers(40, 7, 0, 0, 0));
        due("wind 25, in the lee", 6, before, weather(40, 25, 0, -5), numbers(40, 14, 0, 0, 0));
        due("wind 25, on from", 4, before, weather(40, 25, 0, -5), numbers(40, 9, 0, 0, 0));
        due("wind 25, beside", 5, before, weather(40, 25, 0, -5), numbers(40, 11, 0, 0, 0));
        due("wind 25 without fresh", 6, before, weather(0, 25, 0, -5), numbers(0, 9, 0, 0, 0));
        due("1 of drift is gone", 6, numbers(0, 1, 0, 0, 0), weather(0, 0, 0, -5), numbers(0, 0, 0, 0, 0));
        due("10 * 8 / 10", 6, numbers(0, 10, 0, 0, 0), weather(0, 0, 0, -5), numbers(0, 8, 0, 0, 0));
    }

    /** "g is the least one of fresh and 40": of the fresh that (1) left. */
    private static void leastOfFreshAnd40() {
        int[] none = numbers(0, 0, 0, 0, 0);
        due("fresh 39", SOUTH_MIDDLE, none, weather(39, 60, 0, -5), numbers(39, 39, 0, 0, 0));
        due("fresh 40", SOUTH_MIDDLE, none, weather(40, 60, 0, -5), numbers(40, 40, 0, 0, 0));
        due("fresh 41", SOUTH_MIDDLE, none, weather(41, 60, 0, -5), numbers(41, 40, 0, 0, 0));
        due("fresh 100", SOUTH_MIDDLE, none, weather(150, 60, 0, -5), numbers(100, 40, 0, 0, 0));
        due("fresh settles before it drifts", SOUTH_MIDDLE, numbers(40, 0, 0, 0, 0), weather(0, 60, 0, -5),
            numbers(24, 24, 0, 0, 0));
        due("today's snow drifts too", SOUTH_MIDDLE, numbers(50, 0, 0, 0, 0), weather(9, 60, 0, -5),
            numbers(39, 39, 0, 0, 0));
    }

    /** "By g * (wind - 20) / 40 .. by half of this": both are cut, and drift is at most 100. */
    private static void driftIsCutAndCapped() {
        int[] none = numbers(0, 0, 0, 0, 0);
        due("7 * 5 / 40", 6, none, weather(7, 25, 0, -5), numbers(7, 0, 0, 0, 0));
        due("8 * 5 / 40", 6, none, weather(8, 25, 0, -5), numbers(8, 1, 0, 0, 0));
        due("half of 1", 5, none, weather(8, 25, 0, -5), numbers(8, 0, 0, 0, 0));
        due("15 * 5 / 40", 6, none, weather(15, 25, 0, -5), numbers(15, 1, 0, 0, 0));
        due("half of 3", 7, none, weather(24, 25, 0, -5), numbers(24, 1, 0, 0, 0));
        due("39 * 100 / 40", 6, none, weather(39, 120, 0, -5), numbers(39, 97, 0, 0, 0));
        due("half of 97", 5, none, weather(39, 120, 0, -5), numbers(39, 48, 0, 0, 0));
        due("the greatest wind", 6, none, weather(40, 120, 0, -5), numbers(40, 100, 0, 0, 0));
        due("the greatest wind on drift", 6, numbers(0, 1, 0, 0, 0), weather(40, 120, 0, -5),
            numbers(40, 100, 0, 0, 0));
        due("half of the greatest", 7, numbers(0, 50, 0, 0, 0), weather(40, 120, 0, -5), numbers(40, 100, 0, 0, 0));
        due("half of the greatest, capped", 7, numbers(0, 51, 0, 0, 0), weather(40, 120, 0, -5),
            numbers(40, 100, 0, 0, 0));
    }

    /** "(from + 2) % 4 .. (from + 1) % 4 and (from + 3) % 4": these wrap around past the aspect 3. */
    private static void driftTurnsWithTheWind() {
        int[][] driftOfAspects = {{0, 5, 10, 5}, {5, 0, 5, 10}, {10, 5, 0, 5}, {5, 10, 5, 0}};
        int[] none = numbers(0, 0, 0, 0, 0);
        for (int from = 0; from < 4; from++) {
            for (int s = 0; s < 12; s++) {
                due("wind from " + from, s, none, weather(20, 40, from, -20),
                    numbers(20, driftOfAspects[from][s % 4], 0, 0, 0));
            }
        }
    }

    /** "If f is at least 10, weak becomes greater by 15 * hoar, and hoar becomes 0." It goes before wind and warmth. */
    private static void tenOfSnowBuryHoar() {
        int[] hoar = numbers(0, 0, 0, 0, 3);
        due("f is 9", 4, hoar, weather(9, 0, 0, -20), numbers(9, 0, 0, 0, 3));
        due("f is 10", 4, hoar, weather(10, 0, 0, -20), numbers(10, 0, 42, 0, 0));
        due("f is 10 without hoar", 4, numbers(0, 0, 20, 0, 0), weather(10, 0, 0, -20), numbers(10, 0, 19, 0, 0));
        due("f is 10 and the wind is 40", 4, hoar, weather(10, 40, 0, -20), numbers(10, 0, 42, 0, 0));
        due("f is 10 and t is 1", 4, hoar, weather(10, 0, 0, 1), numbers(10, 0, 31, 4, 0));
        due("the greatest hoar", 4, numbers(0, 0, 0, 0, 10), weather(10, 0, 0, -20), numbers(10, 0, 95, 0, 0));
        due("the least hoar", 4, numbers(0, 0, 0, 0, 1), weather(10, 0, 0, -20), numbers(10, 0, 14, 0, 0));
    }

    /** "Otherwise, if the wind is at least 40, or t is greater than 0, hoar becomes 0." */
    private static void windAndWarmthTakeHoar() {
        int[] hoar = numbers(0, 0, 0, 0, 3);
        int[] kept = numbers(0, 0, 0, 0, 3);
        due("wind 39", 4, hoar, weather(0, 39, 0, -20), kept);
        due("wind 40", 4, hoar, weather(0, 40, 0, -20), numbers(0, 0, 0, 0, 0));
        due("wind 41", 4, hoar, weather(0, 41, 0, -20), numbers(0, 0, 0, 0, 0));
        due("the greatest wind", 4, hoar, weather(0, 120, 0, -20), numbers(0, 0, 0, 0, 0));
        due("wind 40 with f 9", 4, hoar, weather(9, 40, 0, -20), numbers(9, 0, 0, 0, 0));
        int[][] lastKept = {{0, -6}, {4, 0}, {8, 6}};
        for (int[] at : lastKept) {
            due("t 0", at[0], hoar, weather(0, 0, 0, at[1]), kept);
            due("t 1", at[0], hoar, weather(0, 0, 0, at[1] + 1), numbers(0, 0, 0, 4, 0));
            due("t 1 with f 9", at[0], hoar, weather(9, 0, 0, at[1] + 1), numbers(9, 0, 0, 4, 0));
        }
    }

    /** "Otherwise, if f is 0, the wind is less than 15, and t is less than -8, hoar becomes 1 greater." */
    private static void hoarGrows() {
        int[] hoar = numbers(0, 0, 0, 0, 3);
        int[] more = numbers(0, 0, 0, 0, 4);
        due("all three", 4, hoar, weather(0, 14, 0, -9), more);
        due("f is 1", 4, hoar, weather(1, 14, 0, -9), numbers(1, 0, 0, 0, 3));
        due("the wind is 15", 4, hoar, weather(0, 15, 0, -9), hoar);
        int[][] firstGrowing = {{0, -15}, {4, -9}, {8, -3}};
        for (int[] at : firstGrowing) {
            due("t is -9", at[0], hoar, weather(0, 0, 0, at[1]), more);
            due("t is -8", at[0], hoar, weather(0, 0, 0, at[1] + 1), hoar);
        }
    }

    /** "(4) if t is greater than 0 .. otherwise ..", cut. */
    private static void weakAndWetAtZeroDegrees() {
        int[][] weakAtOne = {{100, 70}, {99, 69}, {1, 0}};
        for (int[] w : weakAtOne) {
            due("weak at t 1", 4, numbers(0, 0, w[0], 0, 0), weather(0, 0, 0, 1), numbers(0, 0, w[1], 4, 0));
        }
        int[][] weakAtZero = {{100, 95}, {99, 94}, {1, 0}};
        for (int[] w : weakAtZero) {
            due("weak at t 0", 4, numbers(0, 0, w[0], 0, 0), weather(0, 0, 0, 0), numbers(0, 0, w[1], 0, 0));
        }
        int[][] wetAtZero = {{100, 50}, {3, 1}, {1, 0}, {0, 0}};
        for (int[] w : wetAtZero) {
            due("wet at t 0", 4, numbers(0, 0, 0, w[0], 0), weather(0, 0, 0, 0), numbers(0, 0, 0, w[1], 0));
            due("wet at t 0, south", 6, numbers(0, 0, 0, w[0], 0), weather(0, 0, 0, 0), numbers(0, 0, 0, w[1], 0));
        }
        due("wet at t 1", NORTH_MIDDLE, numbers(0, 0, 0, 7, 0), weather(0, 0, 0, 1), numbers(0, 0, 0, 11, 0));
        due("wet at t 1, south", SOUTH_MIDDLE, numbers(0, 0, 0, 7, 0), weather(0, 0, 0, 1), numbers(0, 0, 0, 15, 0));
    }

    /** The temperature is told from -30 to 15, so t is -36 to 21. */
    private static void warmestAndColdestDays() {
        int[] none = numbers(0, 0, 0, 0, 0);
        due("t 21", 0, none, weather(0, 0, 0, 15), numbers(0, 0, 0, 84, 0));
        due("t 21 comes to the greatest wet", 0, numbers(0, 0, 0, 16, 0), weather(0, 0, 0, 15),
            numbers(0, 0, 0, 100, 0));
        due("t 21 just below it", 0, numbers(0, 0, 0, 15, 0), weather(0, 0, 0, 15), numbers(0, 0, 0, 99, 0));
        due("t 21, south", 2, none, weather(0, 0, 0, 15), numbers(0, 0, 0, 100, 0));
        due("t 9", 8, none, weather(0, 0, 0, 15), numbers(0, 0, 0, 36, 0));
        due("t 9, south", 10, none, weather(0, 0, 0, 15), numbers(0, 0, 0, 72, 0));
        due("t -36", 8, numbers(100, 100, 100, 100, 10), weather(0, 0, 0, -30), numbers(60, 80, 95, 50, 10));
        due("t -24", 0, numbers(100, 100, 100, 100, 10), weather(0, 0, 0, -30), numbers(60, 80, 95, 50, 10));
    }

    /** "If none was told on this day, snow and wind are 0, from is 0, and the temperature is -5." */
    private static void noWeatherTold() {
        AvalancheDesk desk = Edge.deskWith(2);
        for (int s = 0; s < 12; s++) {
            set(desk, s, 10, 10, 20, 30, 5);
        }
        desk.weather(1, 150, 120, 3, 15);
        desk.end();
        int[][] dueOfBands = {{6, 8, 14, 34, 0}, {6, 8, 19, 15, 5}, {6, 8, 19, 15, 6}};
        for (int s = 0; s < 12; s++) {
            int[] due = dueOfBands[s / 4].clone();
            due[Edge.WET] += s == 2 ? 4 : 0;
            Check.due("no weather told, sector " + s, Arrays.equals(read(desk, s), due), true);
        }
        AvalancheDesk next = Edge.deskWith(1);
        next.weather(0, 150, 120, 3, 15);
        next.end();
        set(next, 8, 10, 10, 20, 30, 5);
        next.end();
        Check.due("the weather of the day before", Arrays.equals(read(next, 8), dueOfBands[2]), true);
    }

    private static AvalancheDesk sectorWith(int... values) {
        AvalancheDesk desk = Edge.deskWith(1);
        set(desk, 7, values);
        return desk;
    }

    /** "Its weak, times the least one of 100 and the sum of fresh and drift, divided by 100." */
    private static void weakLayer() {
        int[][] due = {{0, 0, 100, 0}, {1, 0, 100, 1}, {1, 0, 99, 0}, {50, 49, 100, 99}, {50, 50, 100, 100},
            {50, 51, 100, 100}, {50, 49, 1, 0}, {50, 50, 1, 1}, {100, 100, 100, 100}, {100, 100, 99, 99},
            {100, 100, 0, 0}};
        for (int[] d : due) {
            Check.due("weak layer of " + Arrays.toString(d), sectorWith(d[0], d[1], d[2]).problem(0, 7, 2), d[3]);
        }
    }

    /** "The greatest one of these four numbers, and a quarter of the second greatest one (which may be as great)." */
    private static void dangerOfTwoNumbers() {
        int[][] due = {{0, 0, 0, 0, 0}, {0, 0, 0, 1, 1}, {50, 3, 0, 0, 50}, {50, 4, 0, 0, 51}, {50, 7, 0, 0, 51},
            {50, 8, 0, 0, 52}, {8, 50, 0, 0, 52}, {0, 8, 0, 50, 52}, {40, 40, 0, 0, 50}, {40, 0, 0, 40, 50},
            {0, 40, 0, 40, 50}, {40, 40, 0, 40, 50}, {100, 0, 100, 0, 125}, {100, 100, 100, 100, 125},
            {3, 3, 0, 3, 3}, {40, 39, 0, 41, 51}};
        for (int[] d : due) {
            AvalancheDesk desk = sectorWith(d[0], d[1], d[2], d[3]);
            Check.due("danger of " + Arrays.toString(d), desk.danger(0, 7, false), d[4]);
            desk.set(0, 7, Edge.HOAR, 10);
            Check.due("danger with hoar of " + Arrays.toString(d), desk.danger(0, 7, false), d[4]);
        }
    }

    /** "1 if the danger is less than 10, 2 if .. less than 30, 3 .. 55, 4 .. 80, otherwise 5." */
    private static void levelsOfDanger() {
        int[][] due = {{0, 0, 1}, {9, 0, 1}, {9, 3, 1}, {9, 4, 2}, {10, 0, 2}, {29, 3, 2}, {29, 4, 3}, {30, 0, 3},
            {54, 3, 3}, {54, 4, 4}, {55, 0, 4}, {79, 3, 4}, {79, 4, 5}, {80, 0, 5}, {100, 100, 5}};
        for (int[] d : due) {
            Check.due("level of fresh and drift " + Arrays.toString(d), sectorWith(d[0], d[1]).danger(0, 7, true), d[2]);
        }
    }

    /** "The greatest level that at least two of its sectors have or exceed." */
    private static void levelNeedsTwoSectors() {
        for (int level = 2; level <= 5; level++) {
            AvalancheDesk desk = Edge.deskWith(1);
            desk.set(0, 11, Edge.WET, 100);
            Check.due("one sector of level 5", desk.level(0), 1);
            desk.set(0, 0, Edge.WET, Edge.leastDanger(level) - 1);
            Check.due("a second, just below level " + level, desk.level(0), level - 1);
            desk.set(0, 0, Edge.WET, Edge.leastDanger(level));
            Check.due("a second, of level " + level, desk.level(0), level);
            desk.set(0, 11, Edge.WET, Edge.leastDanger(level));
            Check.due("two of level " + level, desk.level(0), level);
            desk.set(0, 11, Edge.WET, Edge.leastDanger(level) - 1);
            Check.due("one of level " + level, desk.level(0), level - 1);
        }
        AvalancheDesk all = Edge.deskWith(1);
        for (int s = 0; s < 12; s++) {
            all.set(0, s, Edge.FRESH, 100);
        }
        Check.due("all sectors of level 5", all.level(0), 5);
    }

    /** "Its core are the sectors with this level or a greater one." */
    private static void coreBeginsAtTheLevel() {
        for (int level = 2; level <= 5; level++) {
            AvalancheDesk desk = Edge.deskWith(1);
            for (int s = 0; s < 12; s++) {
                desk.set(0, s, Edge.WET, Edge.leastDanger(level) - 1);
            }
            Check.due("all below level " + level, desk.core(0), 4095);
            desk.set(0, 11, Edge.WET, Edge.leastDanger(level));
            Check.due("one of level " + level + " makes no smaller core", desk.core(0), 4095);
            desk.set(0, 0, Edge.WET, 100);
            Check.due("the core of level " + level, desk.core(0), 1 + 2048);
        }
    }

    /** "The one whose numbers in all sectors of the core are greatest together; of several the first one." */
    private static void firstOfEqualProblems() {
        int[][] due = {{0, 0, 0, 0, 0}, {50, 50, 0, 50, 0}, {50, 0, 0, 50, 0}, {0, 50, 0, 50, 1}, {50, 50, 50, 0, 0},
            {0, 100, 100, 100, 1}, {100, 0, 100, 100, 0}, {49, 51, 51, 51, 1}, {49, 51, 52, 51, 2},
            {49, 51, 52, 52, 2}, {49, 51, 52, 53, 3}, {51, 50, 51, 51, 0}};
        for (int[] d : due) {
            AvalancheDesk desk = Edge.deskWith(1);
            set(desk, 3, d[0], d[1], d[2], d[3]);
            set(desk, 8, d[0], d[1], d[2], d[3]);
            Check.due("problem of " + Arrays.toString(d), desk.mainProblem(0), d[4]);
        }
        for (int most = 0; most < 12; most += 11) {
            AvalancheDesk desk = Edge.deskWith(1);
            set(desk, most, 0, 0, 0, 52);
            set(desk, 11 - most, 50, 0, 0, 0);
            Check.due("the first and the last sector count: " + most, desk.mainProblem(0), 3);
            set(desk, most, 0, 49, 0, 0);
            Check.due("the other one of them counts: " + most, desk.mainProblem(0), 0);
        }
        AvalancheDesk outside = Edge.deskWith(1);
        set(outside, 3, 30, 0, 0, 0);
        set(outside, 8, 0, 31, 0, 0);
        set(outside, 5, 29, 0, 0, 0);
        Check.due("what lies outside the core does not count", outside.mainProblem(0), 1);
    }
}
