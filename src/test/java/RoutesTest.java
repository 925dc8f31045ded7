/** Promises 21 to 26: addLeg, clearRoute, risk, worstLeg, bestRegion, digest. */
public final class RoutesTest {
    private static final Class<IndexOutOfBoundsException> INDEX = IndexOutOfBoundsException.class;
    private static final Class<IllegalArgumentException> ARGUMENT = IllegalArgumentException.class;
    private static final Class<IllegalStateException> STATE = IllegalStateException.class;

    private static final int FRESH = 0;

    public static void main(String[] args) {
        promise21();
        promise22();
        promise23();
        promise24();
        promise25();
        promise26Start();
        promise26();
        Check.finish();
    }

    private static AvalancheDesk deskWith(int regions) {
        AvalancheDesk desk = new AvalancheDesk();
        for (int r = 0; r < regions; r++) {
            desk.addRegion();
        }
        return desk;
    }

    /** Gives the sectors 0 and 1 this much fresh: they are the core then, unless it is less than 10. */
    private static void snow(AvalancheDesk desk, int region, int fresh) {
        desk.set(region, 0, FRESH, fresh);
        desk.set(region, 1, FRESH, fresh);
    }

    private static void promise21() {
        AvalancheDesk desk = new AvalancheDesk();
        int[][] wrong = {{-1, 30}, {12, 30}, {0, 19}, {0, 51}, {Integer.MIN_VALUE, 30}, {Integer.MAX_VALUE, 30},
            {0, Integer.MIN_VALUE}, {0, Integer.MAX_VALUE}};
        for (int[] w : wrong) {
            Check.refuses(desk, "21: wrong leg", ARGUMENT, () -> desk.addLeg(w[0], w[1]));
        }
        Check.due("21: the least ones", desk.addLeg(0, 20), 1);
        Check.due("21: the greatest ones", desk.addLeg(11, 50), 2);
        for (int i = 3; i <= 20; i++) {
            Check.due("21: addLeg", desk.addLeg(5, 30), i);
        }
        Check.refuses(desk, "21: the 21st", STATE, () -> desk.addLeg(5, 30));
        for (int[] w : wrong) {
            Check.refuses(desk, "21: the 21st, wrong leg first", ARGUMENT, () -> desk.addLeg(w[0], w[1]));
        }
        Check.due("21: there are still 20", desk.clearRoute(), 20);
    }

    private static void promise22() {
        AvalancheDesk desk = deskWith(1);
        Check.due("22: clearRoute, none", desk.clearRoute(), 0);
        desk.addLeg(3, 33);
        desk.addLeg(4, 44);
        Check.due("22: clearRoute", desk.clearRoute(), 2);
        Check.due("22: clearRoute again", desk.clearRoute(), 0);
        Check.refuses(desk, "22: no leg is left", INDEX, () -> desk.risk(0, 0));
        Check.due("22: the next one is the first", desk.addLeg(0, 40), 1);
        Check.due("22: and has its own risk", desk.risk(0, 0), 200);
    }

    private static void promise23() {
        AvalancheDesk desk = deskWith(1);
        int[] steepnesses = {50, 40, 39, 35, 34, 30, 29, 20};
        int[] divisors = {1, 1, 2, 2, 4, 4, 8, 8};
        for (int steepness : steepnesses) {
            desk.addLeg(1, steepness);
            desk.addLeg(2, steepness);
        }
        int[] fresh = {0, 10, 30, 55, 80};
        for (int level = 1; level <= 5; level++) {
            snow(desk, 0, fresh[level - 1]);
            int whole = 100 * (1 << level);
            for (int i = 0; i < 8; i++) {
                int outside = level == 1 ? whole : whole / 4;
                Check.due("23: in the core", desk.risk(0, 2 * i), whole / divisors[i]);
                Check.due("23: not in the core", desk.risk(0, 2 * i + 1), outside / divisors[i]);
            }
        }
        int[][] wrong = {{-1, 0}, {1, 0}, {0, -1}, {0, 16}, {Integer.MAX_VALUE, 0}, {Integer.MIN_VALUE, 0},
            {0, Integer.MAX_VALUE}, {0, Integer.MIN_VALUE}, {1, 16}};
        for (int[] w : wrong) {
            Check.refuses(desk, "23: wrong risk", INDEX, () -> desk.risk(w[0], w[1]));
        }
        AvalancheDesk least = deskWith(1);
        snow(least, 0, 10);
        least.addLeg(9, 29);
        Check.due("23: 400 / 4 / 8 is cut", least.risk(0, 0), 12);
    }

    private static void promise24() {
        AvalancheDesk desk = deskWith(2);
        Check.due("24: no legs", desk.worstLeg(0), -1);
        desk.addLeg(5, 29);
        Check.due("24: one leg", desk.worstLeg(0), 0);
        desk.addLeg(5, 45);
        desk.addLeg(0, 34);
        desk.addLeg(6, 40);
        Check.due("24: the first of several", desk.worstLeg(0), 1);
        snow(desk, 0, 60);
        Check.due("24: as great, outside and in the core", desk.worstLeg(0), 1);
        desk.addLeg(1, 36);
        desk.addLeg(0, 39);
        Check.due("24: in the core", desk.worstLeg(0), 4);
        Check.due("24: another region", desk.worstLeg(1), 1);
        for (int region : new int[] {-1, 2, 6, Integer.MIN_VALUE, Integer.MAX_VALUE}) {
            Check.refuses(desk, "24: wrong worstLeg", INDEX, () -> desk.worstLeg(region));
        }
        desk.clearRoute();
        Check.due("24: no legs any more", desk.worstLeg(0), -1);
        Check.refuses(desk, "24: wrong region without legs", INDEX, () -> desk.worstLeg(2));
    }

    private static void promise25() {
        AvalancheDesk desk = new AvalancheDesk();
        Check.due("25: nothing", desk.bestRegion(), -1);
        desk.addLeg(0, 40);
        Check.due("25: no regions", desk.bestRegion(), -1);
        desk.clearRoute();
        desk.addRegion();
        desk.addRegion();
        desk.addRegion();
        Check.due("25: no legs", desk.bestRegion(), -1);
        desk.addLeg(0, 40);
        Check.due("25: of several the smallest", desk.bestRegion(), 0);
        snow(desk, 0, 30);
        Check.due("25: of two the smallest", desk.bestRegion(), 1);
        snow(desk, 1, 10);
        Check.due("25: the least", desk.bestRegion(), 2);
        snow(desk, 2, 80);
        Check.due("25: the least again", desk.bestRegion(), 1);

        AvalancheDesk outside = deskWith(2);
        snow(outside, 1, 10);
        outside.addLeg(7, 40);
        Check.due("25: outside the core of a greater level", outside.bestRegion(), 1);
        outside.addLeg(1, 40);
        Check.due("25: the greatest of all legs counts", outside.bestRegion(), 0);
        outside.clearRoute();
        outside.addLeg(1, 40);
        outside.addLeg(7, 40);
        Check.due("25: whichever leg it is", outside.bestRegion(), 0);
    }

    private static long digestOf(long... numbers) {
        long d = 331;
        for (long x : numbers) {
            d = d * 31 + x;
        }
        return d;
    }

    private static void promise26Start() {
        AvalancheDesk desk = new AvalancheDesk();
        Check.due("26: a new desk", desk.digest(), digestOf(0, 0, 0, 0));
        desk.end();
        desk.addLeg(11, 50);
        desk.addLeg(3, 21);
        Check.due("26: day and legs", desk.digest(), digestOf(1, 0, 0, 2, 11, 50, 3, 21));
        Check.due("26: it changes nothing", desk.digest(), digestOf(1, 0, 0, 2, 11, 50, 3, 21));
    }

    private static void promise26() {
        AvalancheDesk desk = deskWith(1);
        desk.publish();
        desk.see(0, 3, 5);
        desk.end();
        desk.addRegion();
        for (int s = 0; s < 12; s++) {
            for (int what = 0; what < 5; what++) {
                desk.set(0, s, what, 0);
                desk.set(1, s, what, (s + 3 * what) % 11);
            }
        }
        desk.set(1, 6, 3, 70);
        desk.set(1, 8, 3, 75);
        desk.end();
        desk.publish();
        desk.see(1, 2, 2);
        desk.see(1, 2, 1);
        desk.addLeg(7, 37);
        long d = digestOf(2, 2);
        for (int r = 0; r < 2; r++) {
            for (int s = 0; s < 12; s++) {
                for (int what = 0; what < 5; what++) {
                    d = d * 31 + desk.sector(r, s, what);
                }
            }
            int[] facts = {desk.level(r), desk.core(r), desk.mainProblem(r), desk.activity(2, r)};
            for (int x : facts) {
                d = d * 31 + x;
            }
        }
        int[] rest = {
            0, 1, 4095, 0,
            2, desk.level(0), desk.core(0), desk.mainProblem(0), desk.level(1), desk.core(1), desk.mainProblem(1),
            3, 1, 7, 37};
        for (int x : rest) {
            d = d * 31 + x;
        }
        Check.due("26: the whole desk", desk.digest(), d);
        desk.set(1, 8, 3, 76);
        Check.due("26: another number, another digest", desk.digest() == d, false);
    }
}
