import java.math.BigInteger;

/** Promises 21 to 26 at their boundaries, and the desk when all of it is full. */
public final class RouteBoundariesTest {
    private static final int PROMISED_CALLS = 512;

    public static void main(String[] args) {
        promise21();
        promise21Refused();
        promise22();
        promise23();
        promise23Refused();
        promise24();
        promise25();
        promise26();
        promise26LaterRegion();
        promise26WrapsAround();
        fullDesk();
        lastPromisedCall();
        Check.finish();
    }

    private static void twoRegionsThreeLegs(AvalancheDesk desk) {
        Edge.addRegions(desk, 2);
        Edge.soak(desk, 1, 80);
        Edge.addLegs(desk, 3);
    }

    private static void twentyLegs(AvalancheDesk desk) {
        Edge.addRegions(desk, 1);
        Edge.addLegs(desk, 20);
    }

    /** "If sector is not 0 to 11, or steepness is not 20 to 50", "if there are 20 legs". */
    private static void promise21() {
        AvalancheDesk desk = new AvalancheDesk();
        int[][] edges = {{0, 20}, {11, 20}, {0, 50}, {11, 50}};
        for (int i = 0; i < 20; i++) {
            Check.due("21: addLeg", desk.addLeg(edges[i % 4][0], edges[i % 4][1]), i + 1);
        }
        Check.due("21: the 21st", Edge.answer(() -> desk.addLeg(0, 20)), Edge.STATE.getName());
        Check.due("21: 20 are left", desk.clearRoute(), 20);
        for (int i = 0; i < 20; i++) {
            Check.due("21: 20 more after clearRoute", desk.addLeg(5, 30), i + 1);
        }
        Check.due("21: the 21st again", Edge.answer(() -> desk.addLeg(0, 20)), Edge.STATE.getName());
    }

    private static void promise21Refused() {
        for (int i = 0; i < 4; i++) {
            int sector = Edge.outside(0, 11)[i];
            int steepness = Edge.outside(20, 50)[i];
            Edge.refused("21: no such sector", Edge.ARGUMENT, RouteBoundariesTest::twoRegionsThreeLegs,
                at -> at.addLeg(sector, 20));
            Edge.refused("21: no such steepness", Edge.ARGUMENT, RouteBoundariesTest::twoRegionsThreeLegs,
                at -> at.addLeg(0, steepness));
            Edge.refused("21: the wrong sector comes before 20 legs", Edge.ARGUMENT, RouteBoundariesTest::twentyLegs,
                at -> at.addLeg(sector, 20));
            Edge.refused("21: the wrong steepness comes before 20 legs", Edge.ARGUMENT,
                RouteBoundariesTest::twentyLegs, at -> at.addLeg(0, steepness));
        }
        Edge.refused("21: 20 legs", Edge.STATE, RouteBoundariesTest::twentyLegs, at -> at.addLeg(0, 50));
    }

    private static void promise22() {
        AvalancheDesk desk = Edge.deskWith(1);
        Check.due("22: none", desk.clearRoute(), 0);
        for (int legs : new int[] {1, 20}) {
            Edge.addLegs(desk, legs);
            Check.due("22: all of them", desk.clearRoute(), legs);
            Check.due("22: none are left", desk.clearRoute(), 0);
            Check.due("22: no worst one either", desk.worstLeg(0), -1);
            Check.due("22: no first one either", Edge.answer(() -> desk.risk(0, 0)), Edge.INDEX.getName());
        }
    }

    /** "By 1 if the steepness is at least 40, by 2 if .. 35, by 4 if .. 30, otherwise by 8", each cut towards 0. */
    private static void promise23() {
        int[][] steps = {{20, 8}, {29, 8}, {30, 4}, {34, 4}, {35, 2}, {39, 2}, {40, 1}, {50, 1}};
        for (int level = 1; level <= 5; level++) {
            AvalancheDesk desk = Edge.deskWith(6);
            Edge.soak(desk, 5, Edge.leastDanger(level));
            int inside = 100 * (1 << level);
            int outside = level == 1 ? inside : inside / 4;
            for (int i = 0; i < 8; i++) {
                desk.addLeg(7, steps[i][0]);
                desk.addLeg(8, steps[i][0]);
                String name = "23: level " + level + ", steepness " + steps[i][0];
                Check.due(name + ", in the core", desk.risk(5, 2 * i), inside / steps[i][1]);
                Check.due(name + ", not in the core", desk.risk(5, 2 * i + 1), outside / steps[i][1]);
            }
        }
        AvalancheDesk least = Edge.deskWith(1);
        Edge.soak(least, 0, 10);
        least.addLeg(0, 20);
        Check.due("23: 400 / 4 / 8 is 12, not 12.5", least.risk(0, 0), 12);
        AvalancheDesk greatest = Edge.deskWith(1);
        Edge.soak(greatest, 0, 100);
        greatest.addLeg(4, 50);
        Check.due("23: the greatest risk", greatest.risk(0, 0), 3200);
    }

    private static void promise23Refused() {
        for (int i = 0; i < 4; i++) {
            int region = Edge.outside(0, 1)[i];
            int leg = Edge.outside(0, 2)[i];
            Edge.refused("23: no such region", Edge.INDEX, RouteBoundariesTest::twoRegionsThreeLegs,
                at -> at.risk(region, 0));
            Edge.refused("23: no such leg", Edge.INDEX, RouteBoundariesTest::twoRegionsThreeLegs,
                at -> at.risk(0, leg));
            Edge.refused("23: no such region and leg", Edge.INDEX, RouteBoundariesTest::twoRegionsThreeLegs,
                at -> at.risk(region, leg));
        }
        Edge.refused("23: no legs", Edge.INDEX, at -> at.addRegion(), at -> at.risk(0, 0));
        Edge.refused("23: no regions", Edge.INDEX, at -> at.addLeg(0, 20), at -> at.risk(0, 0));
        AvalancheDesk full = new AvalancheDesk();
        twentyLegs(full);
        Check.due("23: the last of 20, of steepness 39", full.risk(0, 19), 100);
        Check.due("23: behind the last of 20", Edge.answer(() -> full.risk(0, 20)), Edge.INDEX.getName());
    }

    /** "Of several the first one; -1 if there are no legs." */
    private static void promise24() {
        AvalancheDesk desk = Edge.deskWith(6);
        Check.due("24: no legs", desk.worstLeg(5), -1);
        desk.addLeg(0, 20);
        Check.due("24: one leg", desk.worstLeg(5), 0);
        desk.addLeg(0, 29);
        Check.due("24: two as great", desk.worstLeg(5), 0);
        desk.addLeg(0, 30);
        desk.addLeg(1, 34);
        Check.due("24: the last but one", desk.worstLeg(5), 2);
        for (int i = 4; i < 19; i++) {
            desk.addLeg(2, 34);
        }
        desk.addLeg(11, 35);
        Check.due("24: the last of 20", desk.worstLeg(5), 19);
        for (int region : Edge.outside(0, 1)) {
            Edge.refused("24: no such region", Edge.INDEX, RouteBoundariesTest::twoRegionsThreeLegs,
                at -> at.worstLeg(region));
            Edge.refused("24: no such region, no legs", Edge.INDEX, at -> Edge.addRegions(at, 2),
                at -> at.worstLeg(region));
        }
        Edge.refused("24: no region at all", Edge.INDEX, at -> { }, at -> at.worstLeg(0));
    }

    /** "Of several the one with the smallest number; -1 if there are no regions or no legs." */
    private static void promise25() {
        Check.due("25: no regions and no legs", new AvalancheDesk().bestRegion(), -1);
        Check.due("25: no legs", Edge.deskWith(6).bestRegion(), -1);
        AvalancheDesk noRegions = new AvalancheDesk();
        Edge.addLegs(noRegions, 20);
        Check.due("25: no regions", noRegions.bestRegion(), -1);
        noRegions.addRegion();
        Check.due("25: one region", noRegions.bestRegion(), 0);
        AvalancheDesk desk = Edge.deskWith(6);
        desk.addLeg(4, 40);
        Check.due("25: six as good", desk.bestRegion(), 0);
        for (int r = 0; r < 5; r++) {
            Edge.soak(desk, r, 10);
            Check.due("25: the rest as good", desk.bestRegion(), r + 1);
        }
        Edge.soak(desk, 5, 10);
        Check.due("25: six as good again", desk.bestRegion(), 0);
        Edge.soak(desk, 0, 30);
        Check.due("25: five as good", desk.bestRegion(), 1);
        desk.clearRoute();
        Check.due("25: no legs any more", desk.bestRegion(), -1);
    }

    private static BigInteger unwrapped(Iterable<Integer> numbers) {
        BigInteger d = BigInteger.valueOf(331);
        for (int x : numbers) {
            d = d.multiply(BigInteger.valueOf(31)).add(BigInteger.valueOf(x));
        }
        return d;
    }

    /** "A number d starts with 331": an empty desk tells four numbers, each 0. */
    private static void promise26() {
        Check.due("26: a new desk", new AvalancheDesk().digest(), 331L * 31 * 31 * 31 * 31);
        AvalancheDesk desk = new AvalancheDesk();
        Edge.endDays(desk, 60);
        desk.addLeg(11, 50);
        long due = 331L * 31 + 60;
        for (int x : new int[] {0, 0, 1, 11, 50}) {
            due = due * 31 + x;
        }
        Check.due("26: the last day, no regions, one leg", desk.digest(), due);
        desk.clearRoute();
        Check.due("26: no legs any more", desk.digest(), ((331L * 31 + 60) * 31 * 31) * 31);
    }

    /** "For each bulletin .. what it tells of each of its regions": not of one that came after it. */
    private static void promise26LaterRegion() {
        Model model = new Model();
        AvalancheDesk desk = Edge.deskWith(1);
        model.regions.add(new int[12][5]);
        desk.publish();
        model.publish();
        Check.due("26: a bulletin of one region", desk.digest(), model.digest());
        desk.addRegion();
        model.regions.add(new int[12][5]);
        Check.due("26: a region came later that day", desk.digest(), model.digest());
        desk.end();
        model.endDay();
        Check.due("26: a day later", desk.digest(), model.digest());
        desk.publish();
        model.publish();
        Check.due("26: bulletins of one and of two regions", desk.digest(), model.digest());
    }

    /** "Which wraps around as a 64-bit integer": d is what 64 bits leave of the number that grows without a bound. */
    private static void promise26WrapsAround() {
        Model model = new Model();
        AvalancheDesk desk = new AvalancheDesk();
        boolean isNegativeSeen = false;
        boolean isPositiveSeen = false;
        for (int r = 0; r < 6; r++) {
            desk.addRegion();
            model.regions.add(new int[12][5]);
            BigInteger due = unwrapped(model.numbers());
            Check.due("26: it has wrapped around", due.bitLength() > 63, true);
            Check.due("26: what 64 bits leave", desk.digest(), due.longValue());
            isNegativeSeen |= desk.digest() < 0;
            isPositiveSeen |= desk.digest() > 0;
        }
        Check.due("26: both signs were seen", isNegativeSeen && isPositiveSeen, true);
    }

    /** All rows full at once: 6 regions, 20 legs, 61 bulletins, 200 avalanches, day 60. */
    private static void fullDesk() {
        AvalancheDesk desk = Edge.deskWith(6);
        Model model = new Model();
        for (int r = 0; r < 6; r++) {
            model.regions.add(new int[12][5]);
        }
        Edge.addLegs(desk, 20);
        for (int i = 0; i < 20; i++) {
            model.legs.add(new int[] {i % 12, 20 + i});
        }
        for (int d = 0; d <= 60; d++) {
            fullDay(desk, model, d);
        }
        Check.due("26: the full desk", desk.digest(), unwrapped(model.numbers()).longValue());
        Check.due("16: the full desk", desk.bulletins(), 61);
        Check.due("25: the full desk", desk.bestRegion(), model.bestRegion());
        for (int how = -1; how <= 1; how++) {
            Check.due("19: the full desk", desk.borneOut(how), model.borneOut(how));
        }
        for (int r = 0; r < 6; r++) {
            Check.due("20: the full desk", desk.inCore(r), model.inCore(r));
            Check.due("24: the full desk", desk.worstLeg(r), model.worstLeg(r));
        }
        String state = Edge.STATE.getName();
        Check.due("2: the full desk", Edge.answer(desk::addRegion), state);
        Check.due("4: the full desk", Edge.answer(desk::end), state);
        Check.due("14: the full desk", Edge.answer(desk::publish), state);
        Check.due("17: the full desk", Edge.answer(() -> desk.see(0, 0, 1)), state);
        Check.due("21: the full desk", Edge.answer(() -> desk.addLeg(0, 20)), state);
        Check.due("26: still the full desk", desk.digest(), unwrapped(model.numbers()).longValue());
    }

    /** 61 such days come to 382 calls, below the number that the document promises. */
    private static void fullDay(AvalancheDesk desk, Model model, int d) {
        Check.due("14: day " + d, desk.publish(), model.publish());
        for (int i = 0; i < 4 && model.avalanches.size() < 200; i++) {
            int r = (d + i) % 6;
            int s = (5 * d + i) % 12;
            int size = 1 + (d + 2 * i) % 5;
            Check.due("17: day " + d, desk.see(r, s, size), model.activity(d, r) + size * size);
            model.avalanches.add(new int[] {d, r, s, size});
        }
        int[] weather = {d * 37 % 40, d * 29 % 61, d % 4, d * 7 % 20 - 15};
        desk.weather(d % 6, weather[0], weather[1], weather[2], weather[3]);
        model.weatherToday.put(d % 6, weather);
        if (d < 60) {
            desk.end();
            model.endDay();
        }
    }

    /** "An object is used for at most 512 calls": the last of them answers as the first does. */
    private static void lastPromisedCall() {
        AvalancheDesk desk = Edge.deskWith(1);
        for (int call = 2; call < PROMISED_CALLS; call++) {
            Check.due("13: call " + call, desk.outlook(0, 150, 120, 0, -30), 5);
        }
        Check.due("26: the last promised call", desk.digest(), Edge.deskWith(1).digest());
        AvalancheDesk refusing = new AvalancheDesk();
        for (int call = 1; call < PROMISED_CALLS; call++) {
            Check.due("6: call " + call, Edge.answer(() -> refusing.sector(0, 0, 0)), Edge.INDEX.getName());
        }
        Check.due("26: after refusals alone", refusing.digest(), new AvalancheDesk().digest());
    }
}
