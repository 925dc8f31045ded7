/** Long mixed runs of calls, right and wrong ones: the desk answers each as the model does. */
public final class ModelTest {
    private static final int RUNS = 600;
    /** The document promises nothing of what later calls answer. */
    private static final int PROMISED_CALLS = 512;
    /** More than any step makes. */
    private static final int CALLS_OF_A_STEP = 16;
    private static final int[] FAR = {Integer.MIN_VALUE, Integer.MAX_VALUE, -1000, 1000};

    private final int run;
    private final AvalancheDesk desk = new AvalancheDesk();
    private final Model model = new Model();
    private long seed;
    private int calls = 0;

    private ModelTest(int run) {
        this.run = run;
        this.seed = 77_003L * run + 5;
    }

    public static void main(String[] args) {
        for (int run = 1; run <= RUNS; run++) {
            ModelTest test = new ModelTest(run);
            while (test.calls <= PROMISED_CALLS - CALLS_OF_A_STEP) {
                test.step();
            }
            Check.due("run " + run + " stays within the promised calls", test.calls <= PROMISED_CALLS, true);
        }
        Check.finish();
    }

    /** 0 to bound - 1, the same ones in every run of the tests. */
    private int next(int bound) {
        seed = seed * 6364136223846793005L + 1442695040888963407L;
        return (int) Math.floorMod(seed >>> 33, (long) bound);
    }

    /** Most often a number of the range; now and then one just outside of it, or far off. */
    private int pick(int least, int greatest) {
        int way = next(60);
        if (way == 0) {
            return least - 1;
        }
        if (way == 1) {
            return greatest + 1;
        }
        if (way == 2) {
            return FAR[next(FAR.length)];
        }
        return way < 8 ? least : way < 14 ? greatest : least + next(greatest - least + 1);
    }

    private int pickRegion() {
        return pick(0, Math.max(0, model.regions.size() - 1));
    }

    private void step() {
        // Runs differ in how often a day ends, so that some come to day 60 and some to 200 avalanches.
        int way = next(100);
        if (way < 1 + run % 3 || model.regions.isEmpty() && way < 60) {
            addRegion();
        } else if (way < 8) {
            end(run % 4 == 0 ? 6 : 1);
        } else if (way < 30) {
            weatherOrOutlook(next(3) > 0);
        } else if (way < 42) {
            sectorOrSet(next(4) > 0);
        } else if (way < 60) {
            dangerCalls(next(6));
        } else if (way < 78) {
            bulletinCalls(next(6));
        } else if (way < 84 || run % 5 == 4 && way < 94) {
            see();
        } else {
            routeCalls(next(7));
        }
        compare("digest()", null, desk::digest, model.digest());
    }

    private interface Call {
        long answer();
    }

    /** The call throws what is due, or answers what is due if nothing is. */
    private boolean compare(String name, String fault, Call call, long want) {
        String thrown = null;
        long got = 0;
        calls++;
        try {
            got = call.answer();
        } catch (RuntimeException e) {
            thrown = e.getClass().getName();
        }
        String label = "run " + run + ", day " + model.day + ": " + name;
        if (thrown == null ? fault != null : !thrown.equals(fault)) {
            Check.fault(label + " threw " + thrown + ", due is " + fault);
        } else if (fault == null) {
            Check.due(label, got, want);
        }
        return fault == null;
    }

    private static String name(String call, int... arguments) {
        return call + java.util.Arrays.toString(arguments);
    }

    private void addRegion() {
        String fault = model.regions.size() == 6 ? Model.STATE : null;
        if (compare("addRegion()", fault, desk::addRegion, model.regions.size())) {
            model.regions.add(new int[12][5]);
        }
    }

    private void end(int times) {
        for (int i = 0; i < times; i++) {
            String fault = model.day == 60 ? Model.STATE : null;
            if (compare("end()", fault, desk::end, model.day + 1)) {
                model.endDay();
            }
            compare("day()", null, desk::day, model.day);
        }
    }

    private void weatherOrOutlook(boolean isWeather) {
        int r = pickRegion();
        int snow = next(3) == 0 ? 0 : pick(0, next(2) == 0 ? 150 : 30);
        int wind = pick(0, next(2) == 0 ? 120 : 45);
        int from = pick(0, 3);
        int temperature = next(3) == 0 ? pick(-10, 4) : pick(-30, 15);
        String fault = !model.isRegion(r) ? Model.INDEX
            : !Model.isWeather(snow, wind, from, temperature) ? Model.ARGUMENT : null;
        int[] told = {snow, wind, from, temperature};
        if (!isWeather) {
            int want = fault == null ? Model.levelOf(Model.after(model.regions.get(r), told)) : 0;
            compare(name("outlook", r, snow, wind, from, temperature), fault,
                () -> desk.outlook(r, snow, wind, from, temperature), want);
            return;
        }
        int want = model.weatherToday.containsKey(r) ? 0 : 1;
        if (compare(name("weather", r, snow, wind, from, temperature), fault,
                () -> desk.weather(r, snow, wind, from, temperature) ? 1 : 0, want)) {
            model.weatherToday.put(r, told);
        }
    }

    private void sectorOrSet(boolean isSet) {
        int r = pickRegion();
        int s = pick(0, 11);
        int what = pick(0, 4);
        boolean isThere = model.isRegion(r) && Model.isIn(s, 0, 11) && Model.isIn(what, 0, 4);
        int want = isThere ? model.regions.get(r)[s][what] : 0;
        if (!isSet) {
            compare(name("sector", r, s, what), isThere ? null : Model.INDEX, () -> desk.sector(r, s, what), want);
            return;
        }
        int greatest = what == 4 ? 10 : 100;
        int value = pick(0, greatest);
        String fault = !isThere ? Model.INDEX : !Model.isIn(value, 0, greatest) ? Model.ARGUMENT : null;
        if (compare(name("set", r, s, what, value), fault, () -> desk.set(r, s, what, value), want)) {
            model.regions.get(r)[s][what] = value;
        }
    }

    private void dangerCalls(int way) {
        int r = pickRegion();
        int s = pick(0, 11);
        int p = pick(0, 3);
        String noRegion = model.isRegion(r) ? null : Model.INDEX;
        String noSector = model.isRegion(r) && Model.isIn(s, 0, 11) ? null : Model.INDEX;
        int[][] sectors = noRegion == null ? model.regions.get(r) : new int[12][5];
        int[] numbers = noSector == null ? sectors[s] : new int[5];
        if (way == 0) {
            String fault = Model.isIn(p, 0, 3) ? noSector : Model.INDEX;
            int want = fault == null ? Model.problemOf(numbers, p) : 0;
            compare(name("problem", r, s, p), fault, () -> desk.problem(r, s, p), want);
        } else if (way == 1) {
            compare(name("danger", r, s), noSector, () -> desk.danger(r, s, false), Model.dangerOf(numbers));
        } else if (way == 2) {
            compare(name("danger level", r, s), noSector, () -> desk.danger(r, s, true), Model.levelOfSector(numbers));
        } else if (way == 3) {
            compare(name("level", r), noRegion, () -> desk.level(r), Model.levelOf(sectors));
        } else if (way == 4) {
            compare(name("core", r), noRegion, () -> desk.core(r), Model.coreOf(sectors));
        } else {
            compare(name("mainProblem", r), noRegion, () -> desk.mainProblem(r), Model.mainProblemOf(sectors));
        }
    }

    private void bulletinCalls(int way) {
        int r = pickRegion();
        int d = pick(0, model.day);
        if (way == 0) {
            publish();
        } else if (way == 1) {
            int what = pick(0, 2);
            String fault = model.tells(d, r) && Model.isIn(what, 0, 2) ? null : Model.INDEX;
            int want = fault == null ? model.bulletins.get(d)[r][what] : 0;
            compare(name("bulletin", d, r, what), fault, () -> desk.bulletin(d, r, what), want);
        } else if (way == 2) {
            compare("bulletins()", null, desk::bulletins, model.bulletins.size());
        } else if (way == 3) {
            String fault = Model.isIn(d, 0, model.day) && model.isRegion(r) ? null : Model.INDEX;
            compare(name("activity", d, r), fault, () -> desk.activity(d, r), model.activity(d, r));
        } else if (way == 4) {
            int how = pick(-1, 1);
            String fault = Model.isIn(how, -1, 1) ? null : Model.ARGUMENT;
            compare(name("borneOut", how), fault, () -> desk.borneOut(how), model.borneOut(how));
        } else {
            String fault = model.isRegion(r) ? null : Model.INDEX;
            compare(name("inCore", r), fault, () -> Double.doubleToLongBits(desk.inCore(r)),
                Double.doubleToLongBits(model.inCore(r)));
        }
    }

    private void publish() {
        boolean isRefused = model.bulletins.containsKey(model.day) || model.regions.isEmpty();
        int want = isRefused ? 0 : model.publish();
        compare("publish()", isRefused ? Model.STATE : null, desk::publish, want);
    }

    private void see() {
        int times = run % 5 == 4 ? 12 : 1 + run % 5;
        for (int i = 0; i < times; i++) {
            int r = pickRegion();
            int s = pick(0, 11);
            int size = pick(1, 5);
            String fault = !model.isRegion(r) || !Model.isIn(s, 0, 11) ? Model.INDEX
                : !Model.isIn(size, 1, 5) ? Model.ARGUMENT : model.avalanches.size() == 200 ? Model.STATE : null;
            int want = model.activity(model.day, r) + size * size;
            if (compare(name("see", r, s, size), fault, () -> desk.see(r, s, size), want)) {
                model.avalanches.add(new int[] {model.day, r, s, size});
            }
        }
    }

    private void routeCalls(int way) {
        int r = pickRegion();
        String noRegion = model.isRegion(r) ? null : Model.INDEX;
        if (way < 3) {
            int s = pick(0, 11);
            int steepness = pick(20, 50);
            String fault = !Model.isIn(s, 0, 11) || !Model.isIn(steepness, 20, 50) ? Model.ARGUMENT
                : model.legs.size() == 20 ? Model.STATE : null;
            if (compare(name("addLeg", s, steepness), fault, () -> desk.addLeg(s, steepness), model.legs.size() + 1)) {
                model.legs.add(new int[] {s, steepness});
            }
        } else if (way == 3 && next(8) == 0) {
            compare("clearRoute()", null, desk::clearRoute, model.legs.size());
            model.legs.clear();
        } else if (way == 4) {
            int leg = pick(0, Math.max(0, model.legs.size() - 1));
            String fault = Model.isIn(leg, 0, model.legs.size() - 1) ? noRegion : Model.INDEX;
            int want = fault == null ? model.risk(r, leg) : 0;
            compare(name("risk", r, leg), fault, () -> desk.risk(r, leg), want);
        } else if (way == 5) {
            compare(name("worstLeg", r), noRegion, () -> desk.worstLeg(r), noRegion == null ? model.worstLeg(r) : 0);
        } else {
            compare("bestRegion()", null, desk::bestRegion, model.bestRegion());
        }
    }
}
