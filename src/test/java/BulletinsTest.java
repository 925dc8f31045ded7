/** Promises 14 to 20: publish, bulletin, bulletins, see, activity, borneOut, inCore. */
public final class BulletinsTest {
    private static final Class<IndexOutOfBoundsException> INDEX = IndexOutOfBoundsException.class;
    private static final Class<IllegalArgumentException> ARGUMENT = IllegalArgumentException.class;
    private static final Class<IllegalStateException> STATE = IllegalStateException.class;

    private static final int WET = 3;

    /** A wet number for each level: it makes two sectors of this level. */
    private static final int[] WET_OF_LEVEL = {0, 0, 10, 30, 55, 80};

    public static void main(String[] args) {
        promise14();
        promise15();
        promise15Refusals();
        promise16();
        promise17();
        promise17Limit();
        promise18();
        promise19Edges();
        promise19();
        promise20();
        Check.finish();
    }

    private static AvalancheDesk deskWith(int regions) {
        AvalancheDesk desk = new AvalancheDesk();
        for (int r = 0; r < regions; r++) {
            desk.addRegion();
        }
        return desk;
    }

    private static void makeLevel(AvalancheDesk desk, int region, int level) {
        for (int s = 0; s < 12; s++) {
            desk.set(region, s, WET, s == 4 || s == 7 ? WET_OF_LEVEL[level] : 0);
        }
    }

    private static void promise14() {
        AvalancheDesk none = new AvalancheDesk();
        Check.refuses(none, "14: publish without regions", STATE, none::publish);
        none.addRegion();
        Check.due("14: publish with one", none.publish(), 1);
        Check.refuses(none, "14: publish twice", STATE, none::publish);
        none.end();
        Check.due("14: publish the next day", none.publish(), 1);

        AvalancheDesk desk = deskWith(3);
        makeLevel(desk, 1, 4);
        makeLevel(desk, 2, 2);
        Check.due("14: the greatest level", desk.publish(), 4);
        desk.addRegion();
        Check.refuses(desk, "14: publish twice, a region later", STATE, desk::publish);

        AvalancheDesk most = deskWith(6);
        makeLevel(most, 5, 3);
        Check.due("14: publish with six", most.publish(), 3);
        Check.due("14: the sixth is told", most.bulletin(0, 5, 1), 16 + 128);
    }

    private static void promise15() {
        AvalancheDesk desk = deskWith(2);
        makeLevel(desk, 1, 5);
        desk.set(1, 11, 1, 90);
        desk.end();
        makeLevel(desk, 1, 5);
        desk.set(1, 11, 1, 90);
        desk.publish();
        makeLevel(desk, 1, 1);
        desk.set(1, 11, 1, 0);
        desk.set(0, 1, 0, 30);
        desk.set(0, 3, 0, 30);
        desk.see(1, 0, 5);
        desk.end();
        desk.end();
        desk.addRegion();
        desk.set(0, 1, 0, 60);
        desk.set(0, 3, 0, 60);
        desk.publish();
        int[][] due = {
            {1, 0, 1, 4095, 3}, {1, 1, 5, 16 + 128 + 2048, 3},
            {3, 0, 4, 2 + 8, 0}, {3, 1, 1, 4095, 3}, {3, 2, 1, 4095, 0}};
        for (int[] d : due) {
            for (int what = 0; what < 3; what++) {
                String call = "15: bulletin(" + d[0] + ", " + d[1] + ", " + what + ")";
                Check.due(call, desk.bulletin(d[0], d[1], what), d[2 + what]);
            }
        }
    }

    private static void promise15Refusals() {
        AvalancheDesk desk = deskWith(1);
        desk.end();
        desk.publish();
        desk.addRegion();
        desk.end();
        int[][] wrong = {{0, 0, 0}, {2, 0, 0}, {3, 0, 0}, {-1, 0, 0}, {60, 0, 0}, {61, 0, 0}, {1, 1, 0}, {1, -1, 0},
            {1, 6, 0}, {1, 0, -1}, {1, 0, 3}, {Integer.MAX_VALUE, 0, 0}, {Integer.MIN_VALUE, 0, 0},
            {1, Integer.MAX_VALUE, 0}, {1, Integer.MIN_VALUE, 0}, {1, 0, Integer.MAX_VALUE}};
        for (int[] w : wrong) {
            Check.refuses(desk, "15: wrong bulletin", INDEX, () -> desk.bulletin(w[0], w[1], w[2]));
        }
        Check.due("15: the right one", desk.bulletin(1, 0, 0), 1);
    }

    private static void promise16() {
        AvalancheDesk desk = deskWith(2);
        Check.due("16: none", desk.bulletins(), 0);
        desk.publish();
        Check.due("16: one", desk.bulletins(), 1);
        desk.end();
        desk.end();
        Check.due("16: days without", desk.bulletins(), 1);
        desk.publish();
        Check.due("16: two", desk.bulletins(), 2);
        Check.refuses(desk, "16: no third", STATE, desk::publish);

        AvalancheDesk all = deskWith(1);
        for (int d = 0; d < 60; d++) {
            all.publish();
            all.end();
        }
        all.publish();
        Check.due("16: one on each day", all.bulletins(), 61);
        Check.due("16: the last one", all.bulletin(60, 0, 0), 5);
    }

    private static void promise17() {
        AvalancheDesk desk = deskWith(2);
        Check.due("17: see", desk.see(0, 0, 5), 25);
        Check.due("17: see again", desk.see(0, 11, 3), 34);
        Check.due("17: see elsewhere", desk.see(1, 0, 1), 1);
        desk.end();
        Check.due("17: see the next day", desk.see(0, 5, 2), 4);
        Check.due("17: sizes", desk.see(0, 5, 4), 20);
        int[][] wrong = {{-1, 0}, {2, 0}, {0, -1}, {0, 12}, {Integer.MAX_VALUE, 0}, {0, Integer.MIN_VALUE}};
        for (int[] w : wrong) {
            Check.refuses(desk, "17: wrong place", INDEX, () -> desk.see(w[0], w[1], 1));
            Check.refuses(desk, "17: wrong place and size", INDEX, () -> desk.see(w[0], w[1], 6));
        }
        for (int size : new int[] {0, 6, -1, Integer.MIN_VALUE, Integer.MAX_VALUE}) {
            Check.refuses(desk, "17: wrong size", ARGUMENT, () -> desk.see(0, 0, size));
        }
        Check.due("17: the refused ones were not noted", desk.see(0, 0, 1), 21);
    }

    private static void promise17Limit() {
        AvalancheDesk desk = deskWith(2);
        for (int i = 1; i <= 100; i++) {
            Check.due("17: see", desk.see(0, 0, 5), 25 * i);
        }
        desk.end();
        for (int i = 1; i <= 100; i++) {
            Check.due("17: see", desk.see(1, 3, 1), i);
        }
        Check.refuses(desk, "17: the 201st", STATE, () -> desk.see(0, 0, 1));
        Check.refuses(desk, "17: the 201st, wrong size first", ARGUMENT, () -> desk.see(0, 0, 0));
        Check.refuses(desk, "17: the 201st, wrong region first", INDEX, () -> desk.see(2, 0, 1));
        Check.refuses(desk, "17: the 201st, wrong sector first", INDEX, () -> desk.see(0, 12, 0));
        desk.end();
        Check.refuses(desk, "17: the 201st on another day", STATE, () -> desk.see(0, 0, 1));
    }

    private static void promise18() {
        AvalancheDesk desk = deskWith(2);
        desk.see(1, 0, 3);
        desk.end();
        desk.see(1, 0, 2);
        desk.see(1, 7, 2);
        desk.end();
        int[][] due = {{0, 0, 0}, {0, 1, 9}, {1, 0, 0}, {1, 1, 8}, {2, 0, 0}, {2, 1, 0}};
        for (int[] d : due) {
            Check.due("18: activity(" + d[0] + ", " + d[1] + ")", desk.activity(d[0], d[1]), d[2]);
        }
        desk.addRegion();
        Check.due("18: of a day before the region", desk.activity(0, 2), 0);
        int[][] wrong = {{-1, 0}, {3, 0}, {0, -1}, {0, 3}, {61, 0}, {Integer.MAX_VALUE, 0}, {Integer.MIN_VALUE, 0},
            {0, Integer.MAX_VALUE}, {0, Integer.MIN_VALUE}, {3, 3}};
        for (int[] w : wrong) {
            Check.refuses(desk, "18: wrong activity", INDEX, () -> desk.activity(w[0], w[1]));
        }
    }

    /** Notes avalanches whose squares add up to the activity. */
    private static void makeActivity(AvalancheDesk desk, int activity) {
        int left = activity;
        for (int size = 5; size >= 1; size--) {
            while (left >= size * size) {
                desk.see(0, 4, size);
                left -= size * size;
            }
        }
    }

    private static void promise19Edges() {
        int[][] due = {{1, 0, 0}, {1, 1, 0}, {1, 2, 1}, {2, 0, 0}, {2, 9, 0}, {2, 10, 1},
            {3, 0, -1}, {3, 3, -1}, {3, 4, 0}, {3, 40, 0}, {3, 41, 1},
            {4, 24, -1}, {4, 25, 0}, {4, 120, 0}, {4, 121, 1}, {5, 0, -1}, {5, 79, -1}, {5, 80, 0}, {5, 5000, 0}};
        for (int[] d : due) {
            AvalancheDesk desk = deskWith(1);
            makeLevel(desk, 0, d[0]);
            desk.publish();
            makeActivity(desk, d[1]);
            for (int how = -1; how <= 1; how++) {
                String call = "19: borneOut(" + how + "), level " + d[0] + ", activity " + d[1];
                Check.due(call, desk.borneOut(how), how == d[2] ? 1 : 0);
            }
        }
    }

    private static void promise19() {
        AvalancheDesk desk = deskWith(2);
        Check.due("19: no bulletins", desk.borneOut(0), 0);
        makeLevel(desk, 1, 3);
        desk.see(0, 0, 2);
        desk.publish();
        Check.due("19: seen before it was published", desk.borneOut(1), 1);
        Check.due("19: too little so far", desk.borneOut(-1), 1);
        desk.see(1, 0, 2);
        Check.due("19: seen after it was published", desk.borneOut(0), 1);
        desk.addRegion();
        Check.due("19: a region that no bulletin tells of", desk.borneOut(0), 1);
        desk.end();
        desk.see(2, 0, 5);
        Check.due("19: a day without a bulletin", desk.borneOut(1), 1);
        desk.set(0, 0, WET, 0);
        makeLevel(desk, 0, 1);
        makeLevel(desk, 1, 1);
        makeLevel(desk, 2, 1);
        desk.publish();
        Check.due("19: greater, all bulletins", desk.borneOut(1), 2);
        Check.due("19: borne out, all bulletins", desk.borneOut(0), 3);
        Check.due("19: less, all bulletins", desk.borneOut(-1), 0);
        for (int how : new int[] {-2, 2, Integer.MIN_VALUE, Integer.MAX_VALUE}) {
            Check.refuses(desk, "19: wrong borneOut", ARGUMENT, () -> desk.borneOut(how));
        }
    }

    private static void promise20() {
        AvalancheDesk desk = deskWith(1);
        Check.due("20: no avalanches", desk.inCore(0), 1.0);
        makeLevel(desk, 0, 3);
        desk.see(0, 0, 1);
        Check.due("20: no bulletin", desk.inCore(0), 1.0);
        desk.publish();
        Check.due("20: seen before the bulletin, not in the core", desk.inCore(0), 0.0);
        desk.see(0, 4, 5);
        Check.due("20: one of two", desk.inCore(0), 0.5);
        desk.see(0, 7, 1);
        Check.due("20: two of three", desk.inCore(0), 2.0 / 3.0);
        makeLevel(desk, 0, 1);
        Check.due("20: the core is the bulletin's", desk.inCore(0), 2.0 / 3.0);
        desk.end();
        desk.see(0, 11, 1);
        Check.due("20: a day without a bulletin", desk.inCore(0), 2.0 / 3.0);
        desk.addRegion();
        desk.end();
        makeLevel(desk, 0, 1);
        desk.publish();
        desk.see(0, 11, 2);
        Check.due("20: another day's core", desk.inCore(0), 3.0 / 4.0);
        Check.due("20: another region", desk.inCore(1), 1.0);
        desk.addRegion();
        desk.see(2, 0, 1);
        Check.due("20: a bulletin that does not tell of it", desk.inCore(2), 1.0);
        AvalancheDesk two = deskWith(2);
        makeLevel(two, 1, 2);
        two.publish();
        two.see(0, 0, 1);
        two.see(1, 0, 1);
        two.see(1, 1, 1);
        two.see(1, 7, 1);
        Check.due("20: of two regions, the first", two.inCore(0), 1.0);
        Check.due("20: of two regions, the second", two.inCore(1), 1.0 / 3.0);
        for (int region : new int[] {-1, 3, 6, Integer.MIN_VALUE, Integer.MAX_VALUE}) {
            Check.refuses(desk, "20: wrong inCore", INDEX, () -> desk.inCore(region));
        }
    }
}
