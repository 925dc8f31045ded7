/** A desk for avalanche bulletins. */
public final class AvalancheDesk {
    private static final int MAX_REGIONS = 6;
    private static final int LAST_DAY = 60;
    private static final int SECTORS = 12;
    private static final int ASPECTS = 4;

    private static final int FRESH = 0;
    private static final int DRIFT = 1;
    private static final int WEAK = 2;
    private static final int WET = 3;
    private static final int HOAR = 4;
    private static final int NUMBERS = 5;

    private static final int PROBLEMS = 4;
    private static final int WEAK_LAYER = 2;

    private static final int LEVEL = 0;
    private static final int CORE = 1;
    private static final int PROBLEM = 2;
    private static final int TOLD_PARTS = 3;

    private static final long DIGEST_START = 331;

    private final Region[] regions = new Region[MAX_REGIONS];
    /** The region on which outlook() tries a weather, so that no call makes a new one. */
    private final Region trial = new Region();
    private final Bulletins archive = new Bulletins();
    private final Avalanches sightings = new Avalanches();
    private final Route route = new Route();
    private int regionCount;
    private int today;

    public AvalancheDesk() {
        for (int r = 0; r < MAX_REGIONS; r++) {
            regions[r] = new Region();
        }
    }

    // ---- regions, weather and days

    public int addRegion() throws IllegalStateException {
        if (regionCount >= MAX_REGIONS) {
            throw new IllegalStateException("there are 6 regions");
        }
        return regionCount++;
    }

    public boolean weather(int region, int snow, int wind, int from, int temperature)
            throws IndexOutOfBoundsException, IllegalArgumentException {
        checkRegion(region);
        checkWeather(snow, wind, from, temperature);
        Region here = regions[region];
        boolean isFirst = !here.isWeatherTold;
        here.tellWeather(snow, wind, from, temperature);
        return isFirst;
    }

    public int end() throws IllegalStateException {
        if (today >= LAST_DAY) {
            throw new IllegalStateException("it is the last day");
        }
        for (int r = 0; r < regionCount; r++) {
            regions[r].passDay();
            regions[r].forgetWeather();
        }
        return ++today;
    }

    public int day() {
        return today;
    }

    public int sector(int region, int sector, int what) throws IndexOutOfBoundsException {
        checkRegion(region);
        checkSector(sector);
        checkNumber(what);
        return regions[region].numberAt(sector, what);
    }

    public int set(int region, int sector, int what, int value)
            throws IndexOutOfBoundsException, IllegalArgumentException {
        checkRegion(region);
        checkSector(sector);
        checkNumber(what);
        if (value < 0 || value > Region.greatestOf(what)) {
            throw new IllegalArgumentException("the number is out of its range");
        }
        int before = regions[region].numberAt(sector, what);
        regions[region].put(sector, what, value);
        return before;
    }

    // ---- danger

    public int problem(int region, int sector, int problem) throws IndexOutOfBoundsException {
        checkRegion(region);
        checkSector(sector);
        if (problem < 0 || problem >= PROBLEMS) {
            throw new IndexOutOfBoundsException("no such problem");
        }
        return regions[region].problemAt(sector, problem);
    }

    public int danger(int region, int sector, boolean isLevel) throws IndexOutOfBoundsException {
        checkRegion(region);
        checkSector(sector);
        int danger = regions[region].dangerAt(sector);
        return isLevel ? Region.levelOfDanger(danger) : danger;
    }

    public int level(int region) throws IndexOutOfBoundsException {
        checkRegion(region);
        return regions[region].findLevel();
    }

    public int core(int region) throws IndexOutOfBoundsException {
        checkRegion(region);
        return regions[region].findCore(regions[region].findLevel());
    }

    public int mainProblem(int region) throws IndexOutOfBoundsException {
        checkRegion(region);
        Region here = regions[region];
        return here.findProblem(here.findCore(here.findLevel()));
    }

    public int outlook(int region, int snow, int wind, int from, int temperature)
            throws IndexOutOfBoundsException, IllegalArgumentException {
        checkRegion(region);
        checkWeather(snow, wind, from, temperature);
        trial.copyNumbersOf(regions[region]);
        trial.tellWeather(snow, wind, from, temperature);
        trial.passDay();
        return trial.findLevel();
    }

    // ---- bulletins

    public int publish() throws IllegalStateException {
        if (archive.hasDay(today)) {
            throw new IllegalStateException("a bulletin was published on this day");
        }
        if (regionCount == 0) {
            throw new IllegalStateException("there are no regions");
        }
        int greatest = 0;
        for (int r = 0; r < regionCount; r++) {
            int level = regions[r].findLevel();
            int core = regions[r].findCore(level);
            archive.write(today, r, level, core, regions[r].findProblem(core));
            greatest = Math.max(greatest, level);
        }
        archive.close(today, regionCount);
        return greatest;
    }

    public int bulletin(int day, int region, int what) throws IndexOutOfBoundsException {
        if (!archive.tells(day, region)) {
            throw new IndexOutOfBoundsException("no bulletin of this day tells of such a region");
        }
        if (what < 0 || what >= TOLD_PARTS) {
            throw new IndexOutOfBoundsException("a bulletin tells nothing like this");
        }
        return archive.read(day, region, what);
    }

    public int bulletins() {
        return archive.count;
    }

    public int see(int region, int sector, int size)
            throws IndexOutOfBoundsException, IllegalArgumentException, IllegalStateException {
        checkRegion(region);
        checkSector(sector);
        if (size < 1 || size > 5) {
            throw new IllegalArgumentException("the size is not 1 to 5");
        }
        if (sightings.isFull()) {
            throw new IllegalStateException("200 avalanches were noted");
        }
        sightings.note(today, region, sector, size);
        return sightings.activityOn(today, region);
    }

    public int activity(int day, int region) throws IndexOutOfBoundsException {
        if (day < 0 || day > today) {
            throw new IndexOutOfBoundsException("no such day so far");
        }
        checkRegion(region);
        return sightings.activityOn(day, region);
    }

    public int borneOut(int how) throws IllegalArgumentException {
        if (how < -1 || how > 1) {
            throw new IllegalArgumentException("how is not -1 to 1");
        }
        int found = 0;
        for (int d = 0; d <= today; d++) {
            for (int r = 0; r < regionCount; r++) {
                if (archive.tells(d, r) && verdict(d, r) == how) {
                    found++;
                }
            }
        }
        return found;
    }

    public double inCore(int region) throws IndexOutOfBoundsException {
        checkRegion(region);
        int all = 0;
        int inside = 0;
        for (int i = 0; i < sightings.count; i++) {
            int day = sightings.days[i];
            if (sightings.places[i] == region && archive.tells(day, region)) {
                all++;
                inside += bit(archive.read(day, region, CORE), sightings.sectors[i]);
            }
        }
        return all == 0 ? 1.0 : (double) inside / (double) all;
    }

    // ---- routes

    public int addLeg(int sector, int steepness)
            throws IllegalArgumentException, IllegalStateException {
        if (sector < 0 || sector >= SECTORS) {
            throw new IllegalArgumentException("the sector is not 0 to 11");
        }
        if (steepness < 20 || steepness > 50) {
            throw new IllegalArgumentException("the steepness is not 20 to 50");
        }
        if (route.isFull()) {
            throw new IllegalStateException("there are 20 legs");
        }
        route.append(sector, steepness);
        return route.count;
    }

    public int clearRoute() {
        int before = route.count;
        route.count = 0;
        return before;
    }

    public int risk(int region, int leg) throws IndexOutOfBoundsException {
        checkRegion(region);
        if (leg < 0 || leg >= route.count) {
            throw new IndexOutOfBoundsException("no such leg");
        }
        int level = regions[region].findLevel();
        return route.riskOf(leg, level, regions[region].findCore(level));
    }

    public int worstLeg(int region) throws IndexOutOfBoundsException {
        checkRegion(region);
        int level = regions[region].findLevel();
        return route.findWorst(level, regions[region].findCore(level));
    }

    public int bestRegion() {
        if (route.count == 0) {
            return -1;
        }
        int best = -1;
        int least = 0;
        for (int r = 0; r < regionCount; r++) {
            int risk = greatestRisk(regions[r]);
            if (best < 0 || risk < least) {
                best = r;
                least = risk;
            }
        }
        return best;
    }

    public long digest() {
        long d = mix(DIGEST_START, today);
        d = mix(d, regionCount);
        for (int r = 0; r < regionCount; r++) {
            d = mixRegion(d, regions[r]);
            d = mix(d, sightings.activityOn(today, r));
        }
        for (int day = 0; day <= today; day++) {
            d = mixBulletin(d, day);
        }
        d = mix(d, sightings.count);
        return mixRoute(d);
    }

    // ---- what the calls share

    private void checkRegion(int region) {
        if (region < 0 || region >= regionCount) {
            throw new IndexOutOfBoundsException("no such region");
        }
    }

    private static void checkSector(int sector) {
        if (sector < 0 || sector >= SECTORS) {
            throw new IndexOutOfBoundsException("no such sector");
        }
    }

    private static void checkNumber(int what) {
        if (what < 0 || what >= NUMBERS) {
            throw new IndexOutOfBoundsException("a sector has no such number");
        }
    }

    private static void checkWeather(int snow, int wind, int from, int temperature) {
        if (snow < 0 || snow > 150) {
            throw new IllegalArgumentException("the snow is not 0 to 150");
        }
        if (wind < 0 || wind > 120) {
            throw new IllegalArgumentException("the wind is not 0 to 120");
        }
        if (from < 0 || from >= ASPECTS) {
            throw new IllegalArgumentException("from is not 0 to 3");
        }
        if (temperature < -30 || temperature > 15) {
            throw new IllegalArgumentException("the temperature is not -30 to 15");
        }
    }

    private static int bit(int set, int index) {
        return set >> index & 1;
    }

    /** -1, 0 or 1: the activity is less than, within or more than what bears the told level out. */
    private int verdict(int day, int region) {
        int level = archive.read(day, region, LEVEL);
        int activity = sightings.activityOn(day, region);
        if (activity < leastActivity(level)) {
            return -1;
        }
        return activity > greatestActivity(level) ? 1 : 0;
    }

    private static int leastActivity(int level) {
        switch (level) {
            case 3: return 4;
            case 4: return 25;
            case 5: return 80;
            default: return 0;
        }
    }

    private static int greatestActivity(int level) {
        switch (level) {
            case 1: return 1;
            case 2: return 9;
            case 3: return 40;
            case 4: return 120;
            default: return Integer.MAX_VALUE;
        }
    }

    private int greatestRisk(Region region) {
        int level = region.findLevel();
        int core = region.findCore(level);
        int worst = route.findWorst(level, core);
        return worst < 0 ? 0 : route.riskOf(worst, level, core);
    }

    private static long mix(long d, long x) {
        return d * 31 + x;
    }

    private static long mixRegion(long d, Region region) {
        for (int s = 0; s < SECTORS; s++) {
            for (int what = 0; what < NUMBERS; what++) {
                d = mix(d, region.numberAt(s, what));
            }
        }
        int level = region.findLevel();
        int core = region.findCore(level);
        d = mix(d, level);
        d = mix(d, core);
        return mix(d, region.findProblem(core));
    }

    private long mixBulletin(long d, int day) {
        if (!archive.hasDay(day)) {
            return d;
        }
        d = mix(d, day);
        for (int r = 0; r < regionCount && archive.tells(day, r); r++) {
            for (int what = 0; what < TOLD_PARTS; what++) {
                d = mix(d, archive.read(day, r, what));
            }
        }
        return d;
    }

    private long mixRoute(long d) {
        d = mix(d, route.count);
        for (int leg = 0; leg < route.count; leg++) {
            d = mix(d, route.sectors[leg]);
            d = mix(d, route.steepnesses[leg]);
        }
        return d;
    }

    /** The snow of one region, and the weather that it has today. */
    private static final class Region {
        private static final int GREATEST = 100;
        private static final int GREATEST_HOAR = 10;
        private static final int USUAL_TEMPERATURE = -5;
        private static final int BAND_STEP = 6;

        private final int[] numbers = new int[SECTORS * NUMBERS];
        private boolean isWeatherTold;
        private int snow;
        private int wind;
        private int from;
        private int temperature = USUAL_TEMPERATURE;

        static int greatestOf(int what) {
            return what == HOAR ? GREATEST_HOAR : GREATEST;
        }

        static int levelOfDanger(int danger) {
            if (danger < 10) {
                return 1;
            }
            if (danger < 30) {
                return 2;
            }
            if (danger < 55) {
                return 3;
            }
            return danger < 80 ? 4 : 5;
        }

        int numberAt(int sector, int what) {
            return numbers[sector * NUMBERS + what];
        }

        void put(int sector, int what, int value) {
            numbers[sector * NUMBERS + what] = Math.min(value, greatestOf(what));
        }

        void copyNumbersOf(Region other) {
            System.arraycopy(other.numbers, 0, numbers, 0, SECTORS * NUMBERS);
        }

        void tellWeather(int snowTold, int windTold, int fromTold, int temperatureTold) {
            isWeatherTold = true;
            snow = snowTold;
            wind = windTold;
            from = fromTold;
            temperature = temperatureTold;
        }

        void forgetWeather() {
            tellWeather(0, 0, 0, USUAL_TEMPERATURE);
            isWeatherTold = false;
        }

        void passDay() {
            for (int s = 0; s < SECTORS; s++) {
                int t = temperature + BAND_STEP * (1 - s / ASPECTS);
                int fall = t <= 1 ? snow : 0;
                settle(s, t, fall);
                blow(s);
                buryHoar(s, t, fall);
                thaw(s, t);
            }
        }

        private void grow(int sector, int what, int by) {
            put(sector, what, numberAt(sector, what) + by);
        }

        private void keepPercent(int sector, int what, int percent) {
            put(sector, what, numberAt(sector, what) * percent / 100);
        }

        private void settle(int sector, int t, int fall) {
            put(sector, FRESH, numberAt(sector, FRESH) * 6 / 10 + fall);
            if (t > 1) {
                grow(sector, WET, snow / 2);
            }
        }

        private void blow(int sector) {
            if (wind < 25) {
                keepPercent(sector, DRIFT, 80);
                return;
            }
            int most = Math.min(numberAt(sector, FRESH), 40) * (wind - 20) / 40;
            int turn = (sector % ASPECTS - from + ASPECTS) % ASPECTS;
            if (turn == 2) {
                grow(sector, DRIFT, most);
            } else if (turn != 0) {
                grow(sector, DRIFT, most / 2);
            }
        }

        private void buryHoar(int sector, int t, int fall) {
            if (fall >= 10) {
                grow(sector, WEAK, 15 * numberAt(sector, HOAR));
                put(sector, HOAR, 0);
            } else if (wind >= 40 || t > 0) {
                put(sector, HOAR, 0);
            } else if (fall == 0 && wind < 15 && t < -8) {
                grow(sector, HOAR, 1);
            }
        }

        private void thaw(int sector, int t) {
            if (t > 0) {
                keepPercent(sector, WEAK, 70);
                grow(sector, WET, (sector % ASPECTS == 2 ? 8 : 4) * t);
            } else {
                keepPercent(sector, WEAK, 95);
                keepPercent(sector, WET, 50);
            }
        }

        /** The other three problems bear the numbers that fresh, drift and wet have. */
        int problemAt(int sector, int problem) {
            int number = numberAt(sector, problem);
            if (problem != WEAK_LAYER) {
                return number;
            }
            int load = numberAt(sector, FRESH) + numberAt(sector, DRIFT);
            return number * Math.min(100, load) / 100;
        }

        int dangerAt(int sector) {
            int greatest = 0;
            int second = 0;
            for (int p = 0; p < PROBLEMS; p++) {
                int number = problemAt(sector, p);
                second = Math.max(second, Math.min(number, greatest));
                greatest = Math.max(greatest, number);
            }
            return greatest + second / 4;
        }

        /** What two sectors have or exceed is what the second greatest danger comes to. */
        int findLevel() {
            int greatest = 0;
            int second = 0;
            for (int s = 0; s < SECTORS; s++) {
                int danger = dangerAt(s);
                second = Math.max(second, Math.min(danger, greatest));
                greatest = Math.max(greatest, danger);
            }
            return levelOfDanger(second);
        }

        int findCore(int level) {
            int core = 0;
            for (int s = 0; s < SECTORS; s++) {
                if (levelOfDanger(dangerAt(s)) >= level) {
                    core |= 1 << s;
                }
            }
            return core;
        }

        int findProblem(int core) {
            int best = 0;
            int greatest = -1;
            for (int p = 0; p < PROBLEMS; p++) {
                int sum = sumInCore(core, p);
                if (sum > greatest) {
                    best = p;
                    greatest = sum;
                }
            }
            return best;
        }

        private int sumInCore(int core, int problem) {
            int sum = 0;
            for (int s = 0; s < SECTORS; s++) {
                sum += bit(core, s) * problemAt(s, problem);
            }
            return sum;
        }
    }

    /** What was told on which day; a bulletin always tells of at least one region. */
    private static final class Bulletins {
        private final int[] regionsTold = new int[LAST_DAY + 1];
        private final int[] told = new int[(LAST_DAY + 1) * MAX_REGIONS * TOLD_PARTS];
        private int count;

        boolean hasDay(int day) {
            return tells(day, 0);
        }

        boolean tells(int day, int region) {
            return day >= 0 && day <= LAST_DAY && region >= 0 && region < regionsTold[day];
        }

        void write(int day, int region, int level, int core, int problem) {
            int row = rowOf(day, region);
            told[row + LEVEL] = level;
            told[row + CORE] = core;
            told[row + PROBLEM] = problem;
        }

        void close(int day, int regionCount) {
            regionsTold[day] = regionCount;
            count++;
        }

        int read(int day, int region, int what) {
            return told[rowOf(day, region) + what];
        }

        private static int rowOf(int day, int region) {
            return (day * MAX_REGIONS + region) * TOLD_PARTS;
        }
    }

    /** The avalanches that were seen, in the order in which they were noted. */
    private static final class Avalanches {
        private static final int MAX = 200;

        private final int[] days = new int[MAX];
        private final int[] places = new int[MAX];
        private final int[] sectors = new int[MAX];
        private final int[] activities = new int[(LAST_DAY + 1) * MAX_REGIONS];
        private int count;

        boolean isFull() {
            return count >= MAX;
        }

        void note(int day, int region, int sector, int size) {
            days[count] = day;
            places[count] = region;
            sectors[count] = sector;
            count++;
            activities[day * MAX_REGIONS + region] += size * size;
        }

        int activityOn(int day, int region) {
            return activities[day * MAX_REGIONS + region];
        }
    }

    /** The legs of the route, in their order. */
    private static final class Route {
        private static final int MAX = 20;

        private final int[] sectors = new int[MAX];
        private final int[] steepnesses = new int[MAX];
        private int count;

        boolean isFull() {
            return count >= MAX;
        }

        void append(int sector, int steepness) {
            sectors[count] = sector;
            steepnesses[count] = steepness;
            count++;
        }

        int riskOf(int leg, int level, int core) {
            int risk = 100 << level;
            if (bit(core, sectors[leg]) == 0) {
                risk /= 4;
            }
            int steepness = steepnesses[leg];
            if (steepness >= 40) {
                return risk;
            }
            if (steepness >= 35) {
                return risk / 2;
            }
            return steepness >= 30 ? risk / 4 : risk / 8;
        }

        int findWorst(int level, int core) {
            int worst = -1;
            int greatest = 0;
            for (int leg = 0; leg < count; leg++) {
                int risk = riskOf(leg, level, core);
                if (worst < 0 || risk > greatest) {
                    worst = leg;
                    greatest = risk;
                }
            }
            return worst;
        }
    }
}
