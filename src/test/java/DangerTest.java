/** Promises 8 to 13: problem, danger, level, core, mainProblem, outlook. */
public final class DangerTest {
    private static final Class<IndexOutOfBoundsException> INDEX = IndexOutOfBoundsException.class;
    private static final Class<IllegalArgumentException> ARGUMENT = IllegalArgumentException.class;

    private static final int FRESH = 0;
    private static final int DRIFT = 1;
    private static final int WEAK = 2;
    private static final int WET = 3;
    private static final int HOAR = 4;

    public static void main(String[] args) {
        promise8();
        promise9();
        promise9Levels();
        promise10();
        promise11();
        promise12();
        promise13();
        promise13Refusals();
        refusals();
        Check.finish();
    }

    private static AvalancheDesk desk() {
        AvalancheDesk desk = new AvalancheDesk();
        desk.addRegion();
        return desk;
    }

    private static void put(AvalancheDesk desk, int sector, int fresh, int drift, int weak, int wet) {
        desk.set(0, sector, FRESH, fresh);
        desk.set(0, sector, DRIFT, drift);
        desk.set(0, sector, WEAK, weak);
        desk.set(0, sector, WET, wet);
    }

    private static void promise8() {
        AvalancheDesk desk = desk();
        put(desk, 5, 31, 12, 77, 9);
        desk.set(0, 5, HOAR, 10);
        Check.due("8: new snow", desk.problem(0, 5, 0), 31);
        Check.due("8: drift", desk.problem(0, 5, 1), 12);
        Check.due("8: weak layer, 77 * 43 / 100", desk.problem(0, 5, 2), 33);
        Check.due("8: wet snow", desk.problem(0, 5, 3), 9);
        Check.due("8: another sector", desk.problem(0, 4, 0), 0);
        put(desk, 5, 60, 39, 100, 0);
        Check.due("8: weak layer, sum 99", desk.problem(0, 5, 2), 99);
        put(desk, 5, 60, 41, 90, 0);
        Check.due("8: weak layer, sum 101", desk.problem(0, 5, 2), 90);
        put(desk, 5, 0, 0, 100, 100);
        Check.due("8: weak layer without load", desk.problem(0, 5, 2), 0);
    }

    private static void dueDanger(String name, int fresh, int drift, int weak, int wet, int want) {
        AvalancheDesk desk = desk();
        put(desk, 7, fresh, drift, weak, wet);
        Check.due("9: danger, " + name, desk.danger(0, 7, false), want);
    }

    private static void promise9() {
        dueDanger("nothing", 0, 0, 0, 0, 0);
        dueDanger("one number", 40, 0, 0, 0, 40);
        dueDanger("a quarter is cut", 40, 7, 0, 0, 41);
        dueDanger("the second of four", 10, 40, 0, 23, 45);
        dueDanger("as great", 0, 40, 0, 40, 50);
        dueDanger("as great, first two", 40, 40, 0, 0, 50);
        dueDanger("the second comes first", 20, 0, 0, 60, 65);
        dueDanger("all are greatest", 100, 100, 100, 100, 125);
        dueDanger("the weak layer is second", 60, 0, 70, 0, 70);
        AvalancheDesk desk = desk();
        desk.set(0, 7, HOAR, 10);
        desk.set(0, 7, WEAK, 100);
        Check.due("9: hoar and weak alone are no danger", desk.danger(0, 7, false), 0);
    }

    private static void promise9Levels() {
        AvalancheDesk desk = desk();
        int[][] due = {{0, 1}, {9, 1}, {10, 2}, {29, 2}, {30, 3}, {54, 3}, {55, 4}, {79, 4}, {80, 5}, {100, 5}};
        for (int[] d : due) {
            desk.set(0, 3, DRIFT, d[0]);
            Check.due("9: danger " + d[0], desk.danger(0, 3, false), d[0]);
            Check.due("9: level of danger " + d[0], desk.danger(0, 3, true), d[1]);
        }
        put(desk, 3, 100, 100, 100, 100);
        Check.due("9: level of danger 125", desk.danger(0, 3, true), 5);
    }

    private static void promise10() {
        AvalancheDesk desk = desk();
        Check.due("10: level of nothing", desk.level(0), 1);
        desk.set(0, 2, WET, 100);
        Check.due("10: one sector alone", desk.level(0), 1);
        desk.set(0, 9, FRESH, 30);
        Check.due("10: 5 and 3", desk.level(0), 3);
        desk.set(0, 0, FRESH, 29);
        Check.due("10: 5, 3 and 2", desk.level(0), 3);
        desk.set(0, 11, DRIFT, 55);
        Check.due("10: 5, 4, 3", desk.level(0), 4);
        desk.set(0, 11, DRIFT, 80);
        Check.due("10: 5, 5", desk.level(0), 5);
        desk.set(0, 2, WET, 0);
        Check.due("10: 5, 3, 2", desk.level(0), 3);
        desk.set(0, 9, FRESH, 10);
        Check.due("10: 5, 2, 2", desk.level(0), 2);
        desk.addRegion();
        Check.due("10: another region", desk.level(1), 1);
    }

    private static void promise11() {
        AvalancheDesk desk = desk();
        Check.due("11: all sectors", desk.core(0), 4095);
        desk.set(0, 0, FRESH, 100);
        Check.due("11: still all", desk.core(0), 4095);
        desk.set(0, 11, FRESH, 30);
        Check.due("11: 5 and 3", desk.core(0), 1 + 2048);
        desk.set(0, 4, FRESH, 29);
        Check.due("11: without 2", desk.core(0), 1 + 2048);
        desk.set(0, 5, WET, 54);
        Check.due("11: with another 3", desk.core(0), 1 + 32 + 2048);
        desk.set(0, 5, WET, 55);
        Check.due("11: 5 and 4", desk.core(0), 1 + 32);
    }

    private static void promise12() {
        AvalancheDesk desk = desk();
        Check.due("12: of several the first", desk.mainProblem(0), 0);
        put(desk, 0, 0, 60, 0, 0);
        put(desk, 1, 0, 0, 0, 61);
        put(desk, 8, 29, 0, 0, 0);
        put(desk, 9, 29, 0, 0, 0);
        put(desk, 10, 29, 0, 0, 0);
        Check.due("12: wet in the core", desk.mainProblem(0), 3);
        desk.set(0, 0, DRIFT, 61);
        Check.due("12: as great, the first", desk.mainProblem(0), 1);
        put(desk, 2, 40, 20, 90, 0);
        Check.due("12: added up in the core", desk.mainProblem(0), 1);
        put(desk, 3, 40, 0, 100, 0);
        Check.due("12: sums 0, 61, 0, 61 and what is outside", desk.mainProblem(0), 1);

        AvalancheDesk hoar = desk();
        for (int s = 0; s < 12; s++) {
            hoar.set(0, s, HOAR, 10);
        }
        Check.due("12: hoar is no problem", hoar.mainProblem(0), 0);

        AvalancheDesk weak = desk();
        put(weak, 0, 50, 50, 90, 0);
        put(weak, 1, 50, 50, 90, 0);
        Check.due("12: weak layer", weak.mainProblem(0), 2);
        put(weak, 0, 100, 0, 100, 0);
        put(weak, 1, 100, 0, 100, 100);
        Check.due("12: new snow before weak layer", weak.mainProblem(0), 0);
        put(weak, 0, 90, 91, 100, 0);
        put(weak, 1, 90, 91, 80, 0);
        Check.due("12: it need not be the greatest in each sector", weak.mainProblem(0), 1);
    }

    private static void promise13() {
        AvalancheDesk desk = desk();
        desk.addRegion();
        for (int s = 0; s < 12; s++) {
            desk.set(0, s, HOAR, 6);
            desk.set(0, s, FRESH, 10);
        }
        desk.weather(0, 0, 0, 0, -20);
        String before = View.of(desk);
        Check.due("13: a quiet day", desk.outlook(0, 0, 0, 0, -20), 1);
        Check.due("13: snow on hoar", desk.outlook(0, 50, 0, 0, -20), 4);
        Check.due("13: snow and wind", desk.outlook(0, 60, 60, 0, -20), 5);
        Check.due("13: rain", desk.outlook(0, 150, 0, 0, 15), 5);
        Check.due("13: the other region", desk.outlook(1, 29, 0, 0, -20), 2);
        Check.due("13: nothing is changed", View.of(desk).equals(before), true);
        Check.due("13: no weather is told", desk.weather(1, 0, 0, 0, -20), true);
        desk.end();
        Check.due("13: the told weather stays", desk.sector(0, 0, FRESH), 6);
        Check.due("13: the told weather stays", desk.sector(0, 0, HOAR), 7);
        int[][] tried = {{12, 30, 2, -9}, {0, 14, 0, 4}, {90, 100, 3, 1}, {40, 25, 1, -30}, {7, 0, 0, 8}};
        for (int[] w : tried) {
            int foretold = desk.outlook(0, w[0], w[1], w[2], w[3]);
            desk.weather(0, w[0], w[1], w[2], w[3]);
            desk.end();
            Check.due("13: the outlook comes true", desk.level(0), foretold);
        }
    }

    private static void promise13Refusals() {
        AvalancheDesk desk = desk();
        int[][] wrong = {
            {-1, 0, 0, 0}, {151, 0, 0, 0}, {0, -1, 0, 0}, {0, 121, 0, 0}, {0, 0, -1, 0}, {0, 0, 4, 0},
            {0, 0, 0, -31}, {0, 0, 0, 16}, {Integer.MAX_VALUE, 0, 0, 0}, {0, 0, 0, Integer.MAX_VALUE}};
        for (int[] w : wrong) {
            Check.refuses(desk, "13: wrong weather", ARGUMENT, () -> desk.outlook(0, w[0], w[1], w[2], w[3]));
            Check.refuses(desk, "13: wrong region first", INDEX, () -> desk.outlook(-1, w[0], w[1], w[2], w[3]));
        }
        Check.refuses(desk, "13: region 1", INDEX, () -> desk.outlook(1, 0, 0, 0, 0));
        Check.due("13: the least ones", desk.outlook(0, 0, 0, 0, -30), 1);
        Check.due("13: the greatest ones", desk.outlook(0, 150, 120, 3, 15), 5);
    }

    private static void refusals() {
        AvalancheDesk desk = desk();
        int[][] wrong = {{-1, 0}, {1, 0}, {0, -1}, {0, 12}, {Integer.MAX_VALUE, 0}, {0, Integer.MIN_VALUE}};
        for (int[] w : wrong) {
            Check.refuses(desk, "8: wrong problem", INDEX, () -> desk.problem(w[0], w[1], 0));
            Check.refuses(desk, "9: wrong danger", INDEX, () -> desk.danger(w[0], w[1], false));
            Check.refuses(desk, "9: wrong level", INDEX, () -> desk.danger(w[0], w[1], true));
        }
        for (int problem : new int[] {-1, 4, Integer.MIN_VALUE, Integer.MAX_VALUE}) {
            Check.refuses(desk, "8: no such problem", INDEX, () -> desk.problem(0, 0, problem));
        }
        for (int region : new int[] {-1, 1, 6, Integer.MIN_VALUE, Integer.MAX_VALUE}) {
            Check.refuses(desk, "10: wrong level", INDEX, () -> desk.level(region));
            Check.refuses(desk, "11: wrong core", INDEX, () -> desk.core(region));
            Check.refuses(desk, "12: wrong mainProblem", INDEX, () -> desk.mainProblem(region));
        }
    }
}
