/** Promises 1 to 7: a new object, addRegion, weather, end, day, sector, set. */
public final class RegionsAndDaysTest {
    private static final Class<IndexOutOfBoundsException> INDEX = IndexOutOfBoundsException.class;
    private static final Class<IllegalArgumentException> ARGUMENT = IllegalArgumentException.class;
    private static final Class<IllegalStateException> STATE = IllegalStateException.class;

    private static final int FRESH = 0;
    private static final int DRIFT = 1;
    private static final int WEAK = 2;
    private static final int WET = 3;
    private static final int HOAR = 4;

    private static final int LOW = 0;
    private static final int MIDDLE = 4;
    private static final int HIGH = 8;

    public static void main(String[] args) {
        promise1();
        promise2();
        promise3();
        promise3Refusals();
        promise4Snow();
        promise4Wind();
        promise4Hoar();
        promise4HoarLimits();
        promise4Thaw();
        promise4Order();
        promise4NoWeather();
        promise4LastDay();
        promise5();
        promise6();
        promise7();
        Check.finish();
    }

    private static AvalancheDesk deskWith(int regions) {
        AvalancheDesk desk = new AvalancheDesk();
        for (int r = 0; r < regions; r++) {
            desk.addRegion();
        }
        return desk;
    }

    /** A region whose every sector has this number. */
    private static AvalancheDesk filled(int what, int value) {
        AvalancheDesk desk = deskWith(1);
        fill(desk, what, value);
        return desk;
    }

    private static void fill(AvalancheDesk desk, int what, int value) {
        for (int s = 0; s < 12; s++) {
            desk.set(0, s, what, value);
        }
    }

    private static void pass(AvalancheDesk desk, int snow, int wind, int from, int temperature) {
        desk.weather(0, snow, wind, from, temperature);
        desk.end();
    }

    private static void dueAt(String name, AvalancheDesk desk, int sector, int what, int want) {
        Check.due(name + ": sector(0, " + sector + ", " + what + ")", desk.sector(0, sector, what), want);
    }

    private static void promise1() {
        AvalancheDesk desk = new AvalancheDesk();
        Check.due("1: day()", desk.day(), 0);
        Check.due("1: bulletins()", desk.bulletins(), 0);
        Check.due("1: clearRoute()", desk.clearRoute(), 0);
        Check.due("1: bestRegion()", desk.bestRegion(), -1);
        Check.refuses(desk, "1: level(0)", INDEX, () -> desk.level(0));
        AvalancheDesk other = deskWith(1);
        Check.refuses(desk, "1: level(0) beside another desk", INDEX, () -> desk.level(0));
        Check.due("1: the other desk's level(0)", other.level(0), 1);
    }

    private static void promise2() {
        AvalancheDesk desk = new AvalancheDesk();
        for (int r = 0; r < 6; r++) {
            Check.due("2: addRegion()", desk.addRegion(), r);
            for (int what = 0; what < 5; what++) {
                for (int s = 0; s < 12; s++) {
                    Check.due("2: a new number", desk.sector(r, s, what), 0);
                }
            }
        }
        Check.refuses(desk, "2: a seventh region", STATE, desk::addRegion);
        Check.refuses(desk, "2: level(6)", INDEX, () -> desk.level(6));

        AvalancheDesk late = filled(FRESH, 50);
        late.weather(0, 50, 0, 0, -20);
        late.end();
        late.addRegion();
        Check.due("2: fresh of a later region", late.sector(1, 8, FRESH), 0);
        Check.due("2: weather of a later region", late.weather(1, 0, 0, 0, 0), true);
    }

    private static void promise3() {
        AvalancheDesk desk = deskWith(2);
        Check.due("3: weather, none told", desk.weather(0, 10, 0, 0, -10), true);
        Check.due("3: weather, one told", desk.weather(0, 20, 0, 0, -10), false);
        Check.due("3: weather, the other region", desk.weather(1, 30, 0, 0, -10), true);
        desk.end();
        Check.due("3: the later weather counts", desk.sector(0, 0, FRESH), 20);
        Check.due("3: each region has its own", desk.sector(1, 0, FRESH), 30);
        Check.due("3: weather, a new day", desk.weather(0, 0, 0, 0, 0), true);
        Check.due("3: the least ones", desk.weather(0, 0, 0, 0, -30), false);
        Check.due("3: the greatest ones", desk.weather(0, 150, 120, 3, 15), false);
        Check.due("3: as if none was told", desk.weather(1, 0, 0, 0, -5), true);
        Check.due("3: and again", desk.weather(1, 0, 0, 0, -5), false);
    }

    private static void promise3Refusals() {
        AvalancheDesk desk = deskWith(1);
        int[][] wrong = {
            {-1, 0, 0, 0}, {151, 0, 0, 0}, {0, -1, 0, 0}, {0, 121, 0, 0}, {0, 0, -1, 0}, {0, 0, 4, 0},
            {0, 0, 0, -31}, {0, 0, 0, 16}, {Integer.MIN_VALUE, 0, 0, 0}, {0, Integer.MAX_VALUE, 0, 0},
            {0, 0, Integer.MAX_VALUE, 0}, {0, 0, 0, Integer.MIN_VALUE}};
        for (int[] w : wrong) {
            Check.refuses(desk, "3: wrong weather", ARGUMENT, () -> desk.weather(0, w[0], w[1], w[2], w[3]));
            Check.refuses(desk, "3: wrong region first", INDEX, () -> desk.weather(1, w[0], w[1], w[2], w[3]));
        }
        Check.refuses(desk, "3: region -1", INDEX, () -> desk.weather(-1, 0, 0, 0, 0));
        Check.refuses(desk, "3: region 1", INDEX, () -> desk.weather(1, 0, 0, 0, 0));
        Check.due("3: a refused one was not told", desk.weather(0, 33, 0, 0, -10), true);
        Check.refuses(desk, "3: wrong weather after a right one", ARGUMENT, () -> desk.weather(0, 99, 0, 0, 16));
        desk.end();
        Check.due("3: the told one stays", desk.sector(0, 0, FRESH), 33);
    }

    private static void promise4Snow() {
        AvalancheDesk desk = filled(FRESH, 99);
        pass(desk, 7, 0, 0, -10);
        dueAt("4: fresh settles, cut, and grows", desk, LOW, FRESH, 66);
        pass(desk, 150, 0, 0, -10);
        dueAt("4: fresh is at most 100", desk, LOW, FRESH, 100);

        AvalancheDesk bands = deskWith(1);
        pass(bands, 21, 0, 0, 1);
        dueAt("4: rain in the low band", bands, LOW, FRESH, 0);
        dueAt("4: snow at 1 degree", bands, MIDDLE, FRESH, 21);
        dueAt("4: snow in the high band", bands, HIGH, FRESH, 21);
        dueAt("4: rain makes wet", bands, LOW, WET, 10 + 4 * 7);
        dueAt("4: rain on the south aspect", bands, LOW + 2, WET, 10 + 8 * 7);
        dueAt("4: 1 degree makes wet", bands, MIDDLE, WET, 4);
        dueAt("4: 1 degree on the south aspect", bands, MIDDLE + 2, WET, 8);
        dueAt("4: cold makes no wet", bands, HIGH + 2, WET, 0);

        AvalancheDesk rain = deskWith(1);
        pass(rain, 150, 0, 0, 2);
        dueAt("4: rain at 2 degrees", rain, MIDDLE, FRESH, 0);
        dueAt("4: wet of rain at 2 degrees", rain, MIDDLE, WET, 75 + 8);
        dueAt("4: snow at -4 degrees", rain, HIGH, FRESH, 100);
        dueAt("4: wet is at most 100", rain, LOW, WET, 100);
    }

    private static void promise4Wind() {
        for (int from = 0; from < 4; from++) {
            AvalancheDesk desk = filled(FRESH, 50);
            fill(desk, DRIFT, 3);
            pass(desk, 5, 61, from, -20);
            for (int band = 0; band < 3; band++) {
                int first = band * 4;
                dueAt("4: drift on from", desk, first + from, DRIFT, 3);
                dueAt("4: drift in the lee", desk, first + (from + 2) % 4, DRIFT, 3 + 35);
                dueAt("4: drift beside", desk, first + (from + 1) % 4, DRIFT, 3 + 17);
                dueAt("4: drift on the other side", desk, first + (from + 3) % 4, DRIFT, 3 + 17);
            }
        }
        AvalancheDesk deep = filled(FRESH, 100);
        pass(deep, 100, 60, 0, -20);
        dueAt("4: at most 40 of fresh drifts", deep, 2, DRIFT, 40);
        pass(deep, 100, 120, 0, -20);
        dueAt("4: drift is at most 100", deep, 2, DRIFT, 100);
        dueAt("4: half of it beside", deep, 1, DRIFT, 20 + 50);

        AvalancheDesk edge = filled(DRIFT, 19);
        pass(edge, 39, 24, 0, -20);
        dueAt("4: drift settles at wind 24", edge, 2, DRIFT, 15);
        dueAt("4: drift settles on from too", edge, 0, DRIFT, 15);
        pass(edge, 17, 25, 0, -20);
        dueAt("4: drift grows at wind 25", edge, 2, DRIFT, 15 + 5);
        dueAt("4: half of 5 is cut", edge, 3, DRIFT, 15 + 2);
        dueAt("4: drift stays on from", edge, 0, DRIFT, 15);

        AvalancheDesk cut = deskWith(1);
        pass(cut, 39, 27, 1, -20);
        dueAt("4: 39 * 7 / 40 is cut", cut, 3, DRIFT, 6);
        dueAt("4: half of it", cut, 0, DRIFT, 3);
    }

    private static void promise4Hoar() {
        AvalancheDesk desk = deskWith(1);
        pass(desk, 0, 14, 0, -9);
        dueAt("4: hoar at -9", desk, MIDDLE, HOAR, 1);
        dueAt("4: hoar at -15", desk, HIGH, HOAR, 1);
        dueAt("4: no hoar at -3", desk, LOW, HOAR, 0);
        pass(desk, 0, 15, 0, -20);
        dueAt("4: no hoar at wind 15", desk, MIDDLE, HOAR, 1);
        pass(desk, 1, 0, 0, -20);
        dueAt("4: no hoar with snow", desk, MIDDLE, HOAR, 1);
        pass(desk, 9, 39, 0, -20);
        dueAt("4: 9 of snow bury no hoar", desk, MIDDLE, HOAR, 1);
        dueAt("4: 9 of snow make nothing weak", desk, MIDDLE, WEAK, 0);
        pass(desk, 0, 0, 0, -8);
        dueAt("4: no hoar at -8", desk, MIDDLE, HOAR, 1);
        pass(desk, 10, 0, 0, -20);
        dueAt("4: 10 of snow bury the hoar", desk, MIDDLE, HOAR, 0);
        dueAt("4: the buried hoar is weak", desk, MIDDLE, WEAK, 14);
    }

    private static void promise4HoarLimits() {
        AvalancheDesk blown = filled(HOAR, 4);
        pass(blown, 0, 39, 0, -20);
        dueAt("4: wind 39 leaves hoar", blown, LOW, HOAR, 4);
        pass(blown, 0, 40, 0, -20);
        dueAt("4: wind 40 takes hoar", blown, LOW, HOAR, 0);
        dueAt("4: hoar that was blown away is not weak", blown, LOW, WEAK, 0);

        AvalancheDesk warm = filled(HOAR, 4);
        pass(warm, 0, 0, 0, 0);
        dueAt("4: 6 degrees take hoar", warm, LOW, HOAR, 0);
        dueAt("4: 0 degrees leave hoar", warm, MIDDLE, HOAR, 4);

        AvalancheDesk most = filled(HOAR, 10);
        pass(most, 0, 0, 0, -20);
        dueAt("4: hoar is at most 10", most, LOW, HOAR, 10);
        pass(most, 10, 120, 0, -20);
        dueAt("4: snow buries before wind blows", most, LOW, HOAR, 0);
        dueAt("4: weak is at most 100 before it settles", most, LOW, WEAK, 95);

        AvalancheDesk rain = filled(HOAR, 2);
        pass(rain, 100, 0, 0, -4);
        dueAt("4: rain buries no hoar", rain, LOW, WEAK, 0);
        dueAt("4: snow buries it", rain, MIDDLE, WEAK, 28);
    }

    private static void promise4Thaw() {
        AvalancheDesk desk = filled(WEAK, 99);
        fill(desk, WET, 51);
        pass(desk, 0, 0, 0, 0);
        dueAt("4: weak at 6 degrees", desk, LOW, WEAK, 69);
        dueAt("4: weak at 0 degrees", desk, MIDDLE, WEAK, 94);
        dueAt("4: wet at 6 degrees", desk, LOW, WET, 75);
        dueAt("4: wet at 6 degrees, west", desk, LOW + 3, WET, 75);
        dueAt("4: wet at 6 degrees, south", desk, LOW + 2, WET, 99);
        dueAt("4: wet at 0 degrees", desk, MIDDLE, WET, 25);
        dueAt("4: wet at 0 degrees, south", desk, MIDDLE + 2, WET, 25);
        pass(desk, 0, 0, 0, 15);
        dueAt("4: wet at 21 degrees", desk, LOW, WET, 100);
        dueAt("4: weak at 9 degrees", desk, HIGH, WEAK, 65);
        dueAt("4: wet at 9 degrees", desk, HIGH, WET, 25 + 36);
    }

    private static void promise4Order() {
        AvalancheDesk desk = filled(HOAR, 3);
        fill(desk, FRESH, 10);
        fill(desk, WEAK, 50);
        fill(desk, WET, 7);
        pass(desk, 20, 40, 0, 1);
        dueAt("4: today's snow drifts", desk, MIDDLE + 2, DRIFT, 13);
        dueAt("4: buried hoar thaws the same day", desk, MIDDLE, WEAK, 66);
        dueAt("4: it settles in the cold band", desk, HIGH, WEAK, 90);
        dueAt("4: wet in the middle band", desk, MIDDLE, WET, 11);
        dueAt("4: wet in the high band", desk, HIGH, WET, 3);
    }

    private static void promise4NoWeather() {
        AvalancheDesk desk = filled(FRESH, 100);
        fill(desk, DRIFT, 100);
        fill(desk, WEAK, 100);
        fill(desk, HOAR, 5);
        Check.due("4: end()", desk.end(), 1);
        dueAt("4: no snow without weather", desk, MIDDLE, FRESH, 60);
        dueAt("4: no wind without weather", desk, MIDDLE, DRIFT, 80);
        dueAt("4: 1 degree in the low band", desk, LOW, WEAK, 70);
        dueAt("4: 1 degree, wet", desk, LOW, WET, 4);
        dueAt("4: 1 degree takes hoar", desk, LOW, HOAR, 0);
        dueAt("4: -5 degrees in the middle band", desk, MIDDLE, WEAK, 95);
        dueAt("4: -5 degrees make no hoar", desk, MIDDLE, HOAR, 5);
        dueAt("4: -11 degrees make hoar", desk, HIGH, HOAR, 6);
        pass(desk, 150, 120, 2, 15);
        Check.due("4: end()", desk.end(), 3);
        dueAt("4: yesterday's snow is forgotten", desk, HIGH, FRESH, 21);
        dueAt("4: yesterday's warmth is forgotten", desk, HIGH, HOAR, 1);
    }

    private static void promise4LastDay() {
        AvalancheDesk desk = filled(FRESH, 100);
        for (int d = 1; d <= 60; d++) {
            Check.due("4: end()", desk.end(), d);
        }
        fill(desk, WET, 0);
        desk.set(0, 0, FRESH, 77);
        Check.due("4: weather on day 60", desk.weather(0, 10, 0, 0, -10), true);
        Check.refuses(desk, "4: end() on day 60", STATE, desk::end);
        Check.due("4: weather still told", desk.weather(0, 10, 0, 0, -10), false);
        Check.due("4: publish() on day 60", desk.publish(), 1);
        Check.due("4: outlook on day 60", desk.outlook(0, 0, 0, 0, 15), 5);
    }

    private static void promise5() {
        AvalancheDesk desk = new AvalancheDesk();
        Check.due("5: day()", desk.day(), 0);
        desk.end();
        Check.due("5: day() without regions", desk.day(), 1);
        desk.addRegion();
        desk.publish();
        Check.due("5: day() after other calls", desk.day(), 1);
        desk.end();
        Check.due("5: day()", desk.day(), 2);
    }

    private static void promise6() {
        AvalancheDesk desk = deskWith(2);
        for (int s = 0; s < 12; s++) {
            for (int what = 0; what < 5; what++) {
                desk.set(1, s, what, (s * 5 + what) % 11);
            }
        }
        for (int s = 0; s < 12; s++) {
            for (int what = 0; what < 5; what++) {
                Check.due("6: sector", desk.sector(1, s, what), (s * 5 + what) % 11);
                Check.due("6: sector of the other", desk.sector(0, s, what), 0);
            }
        }
        int[][] wrong = {{-1, 0, 0}, {2, 0, 0}, {0, -1, 0}, {0, 12, 0}, {0, 0, -1}, {0, 0, 5},
            {Integer.MAX_VALUE, 0, 0}, {0, Integer.MIN_VALUE, 0}, {0, 0, Integer.MAX_VALUE}, {0, 11, 5}};
        for (int[] w : wrong) {
            Check.refuses(desk, "6: wrong sector", INDEX, () -> desk.sector(w[0], w[1], w[2]));
            Check.refuses(desk, "7: wrong set", INDEX, () -> desk.set(w[0], w[1], w[2], 1));
            Check.refuses(desk, "7: wrong set and value", INDEX, () -> desk.set(w[0], w[1], w[2], -1));
        }
    }

    private static void promise7() {
        AvalancheDesk desk = deskWith(1);
        for (int what = 0; what < 5; what++) {
            int number = what;
            int greatest = what == HOAR ? 10 : 100;
            Check.due("7: set to the greatest", desk.set(0, 11, what, greatest), 0);
            Check.refuses(desk, "7: set above it", ARGUMENT, () -> desk.set(0, 11, number, greatest + 1));
            Check.refuses(desk, "7: set to -1", ARGUMENT, () -> desk.set(0, 11, number, -1));
            Check.refuses(desk, "7: set to the least int", ARGUMENT, () -> desk.set(0, 11, number, Integer.MIN_VALUE));
            Check.refuses(desk, "7: set to the greatest int", ARGUMENT, () -> desk.set(0, 11, number, Integer.MAX_VALUE));
            Check.due("7: set again", desk.set(0, 11, what, 3), greatest);
            Check.due("7: set to 0", desk.set(0, 11, what, 0), 3);
            dueAt("7: it is set", desk, 11, what, 0);
        }
    }
}
