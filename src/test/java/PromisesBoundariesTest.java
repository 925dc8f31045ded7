import java.util.function.Consumer;

/**
 * Promises 1 to 20, each sentence that names a boundary: the least and the greatest argument, what lies just
 * outside of them, what is empty, what is full, and what is refused. RouteBoundariesTest goes on with 21 to 26.
 */
public final class PromisesBoundariesTest {
    public static void main(String[] args) {
        promise1();
        promise2();
        promise3();
        promise3Refused();
        promise4();
        promise5();
        promise6();
        promise7();
        promise7Refused();
        promise8();
        promise9();
        promises10To12();
        promise13();
        promise13Refused();
        promise14();
        promise15();
        promise16();
        promise17();
        promise17Full();
        promise18();
        promise19();
        promise20();
        Check.finish();
    }

    /** "A desk without regions and legs, on day 0." */
    private static void promise1() {
        Check.due("1: the day", new AvalancheDesk().day(), 0);
        Check.due("1: no legs", new AvalancheDesk().clearRoute(), 0);
        Check.due("1: no bulletins", new AvalancheDesk().bulletins(), 0);
        Check.due("1: the first region", new AvalancheDesk().addRegion(), 0);
        Check.due("1: the first leg needs no region", new AvalancheDesk().addLeg(0, 20), 1);
        Check.due("1: the first end needs no region", new AvalancheDesk().end(), 1);
        Edge.refused("1: region 0", Edge.INDEX, desk -> { }, desk -> desk.level(0));
    }

    /** "IllegalStateException if there are 6 regions"; they are "numbered from 0 in the order of their creation". */
    private static void promise2() {
        AvalancheDesk desk = new AvalancheDesk();
        for (int r = 0; r < 6; r++) {
            Check.due("2: addRegion", desk.addRegion(), r);
        }
        Edge.refused("2: the 7th", Edge.STATE, full -> Edge.addRegions(full, 6), AvalancheDesk::addRegion);
        Edge.refused("2: the 7th on a later day", Edge.STATE, full -> {
            Edge.addRegions(full, 6);
            full.publish();
            full.end();
        }, AvalancheDesk::addRegion);
        AvalancheDesk last = new AvalancheDesk();
        Edge.endDays(last, 60);
        Check.due("2: a region on day 60", last.addRegion(), 0);
    }

    /** "snow is not 0 to 150, wind is not 0 to 120, from is not 0 to 3, or temperature is not -30 to 15". */
    private static void promise3() {
        int[][] edges = {{0, 0, 0, 0}, {150, 0, 0, 0}, {0, 120, 0, 0}, {0, 0, 3, 0}, {0, 0, 0, -30}, {0, 0, 0, 15},
            {0, 0, 0, -30}, {150, 120, 3, 15}};
        for (int[] w : edges) {
            AvalancheDesk desk = Edge.deskWith(6);
            Check.due("3: none was told", desk.weather(5, w[0], w[1], w[2], w[3]), true);
            Check.due("3: one was told", desk.weather(5, w[0], w[1], w[2], w[3]), false);
            Check.due("3: another region's", desk.weather(0, w[0], w[1], w[2], w[3]), true);
            desk.end();
            Check.due("3: none was told on the new day", desk.weather(5, w[0], w[1], w[2], w[3]), true);
        }
        AvalancheDesk later = Edge.deskWith(1);
        later.weather(0, 40, 0, 0, -10);
        later.weather(0, 30, 0, 0, -10);
        later.end();
        Check.due("3: the later one takes the place", later.sector(0, 0, Edge.FRESH), 30);
    }

    /** Wrong weathers, one argument wrong at a time. */
    private static int[][] wrongWeathers() {
        int[][] ranges = {{0, 150}, {0, 120}, {0, 3}, {-30, 15}};
        int[][] wrong = new int[16][];
        for (int i = 0; i < 16; i++) {
            wrong[i] = new int[4];
            wrong[i][i / 4] = Edge.outside(ranges[i / 4][0], ranges[i / 4][1])[i % 4];
        }
        return wrong;
    }

    private static void twoRegionsOneTold(AvalancheDesk desk) {
        Edge.addRegions(desk, 2);
        desk.weather(1, 40, 50, 1, -9);
    }

    private static void promise3Refused() {
        for (int[] w : wrongWeathers()) {
            for (int region = 0; region < 2; region++) {
                int r = region;
                Edge.refused("3: wrong weather", Edge.ARGUMENT, PromisesBoundariesTest::twoRegionsOneTold,
                    desk -> desk.weather(r, w[0], w[1], w[2], w[3]));
            }
            Edge.refused("3: the wrong region comes first", Edge.INDEX, PromisesBoundariesTest::twoRegionsOneTold,
                desk -> desk.weather(2, w[0], w[1], w[2], w[3]));
        }
        for (int region : Edge.outside(0, 1)) {
            Edge.refused("3: no such region", Edge.INDEX, PromisesBoundariesTest::twoRegionsOneTold,
                desk -> desk.weather(region, 1, 1, 1, 1));
        }
        Edge.refused("3: no region at all", Edge.INDEX, desk -> { }, desk -> desk.weather(0, 1, 1, 1, 1));
    }

    /** "IllegalStateException if it is day 60". */
    private static void promise4() {
        AvalancheDesk desk = Edge.deskWith(1);
        for (int d = 1; d <= 60; d++) {
            Check.due("4: end", desk.end(), d);
        }
        Edge.refused("4: day 60", Edge.STATE, last -> {
            Edge.addRegions(last, 2);
            Edge.endDays(last, 60);
            last.set(0, 0, Edge.FRESH, 70);
            last.weather(1, 150, 120, 3, 15);
        }, AvalancheDesk::end);
        Edge.refused("4: day 60 without regions", Edge.STATE, last -> Edge.endDays(last, 60), AvalancheDesk::end);
        AvalancheDesk again = Edge.deskWith(1);
        Edge.endDays(again, 60);
        for (int i = 0; i < 3; i++) {
            Check.due("4: each time", Edge.answer(again::end), Edge.STATE.getName());
            Check.due("4: it stays day 60", again.day(), 60);
        }
    }

    /** "Days are numbered from 0; the last one is 60." */
    private static void promise5() {
        AvalancheDesk desk = new AvalancheDesk();
        for (int d = 0; d < 60; d++) {
            Check.due("5: day", desk.day(), d);
            desk.end();
        }
        Check.due("5: the last day", desk.day(), 60);
    }

    private static void promise6() {
        AvalancheDesk desk = Edge.deskWith(6);
        for (int r = 0; r < 6; r += 5) {
            for (int s = 0; s < 12; s += 11) {
                for (int what = 0; what < 5; what += 4) {
                    Check.due("6: 0 at first", desk.sector(r, s, what), 0);
                    desk.set(r, s, what, 1 + r + s / 11 + what / 4);
                    Check.due("6: sector", desk.sector(r, s, what), 1 + r + s / 11 + what / 4);
                }
            }
        }
        for (int i = 0; i < 4; i++) {
            int region = Edge.outside(0, 1)[i];
            int sector = Edge.outside(0, 11)[i];
            int what = Edge.outside(0, 4)[i];
            refusedAtTwo("6: no such region", Edge.INDEX, at -> at.sector(region, 0, 0));
            refusedAtTwo("6: no such sector", Edge.INDEX, at -> at.sector(1, sector, 0));
            refusedAtTwo("6: no such number", Edge.INDEX, at -> at.sector(1, 11, what));
        }
        Edge.refused("6: no region at all", Edge.INDEX, none -> { }, none -> none.sector(0, 0, 0));
    }

    /** The call is refused on a desk with two regions that is not new any more. */
    private static void refusedAtTwo(String name, Class<? extends RuntimeException> kind,
            Consumer<AvalancheDesk> call) {
        Edge.refused(name, kind, desk -> {
            Edge.addRegions(desk, 2);
            Edge.addLegs(desk, 2);
            Edge.soak(desk, 0, 60);
            desk.set(1, 11, Edge.HOAR, 7);
            desk.end();
            desk.publish();
            desk.see(0, 4, 2);
            desk.see(1, 4, 3);
            desk.weather(1, 20, 30, 2, -7);
        }, call);
    }

    /** "If value is less than 0, or greater than the greatest one of this number." */
    private static void promise7() {
        for (int what = 0; what < 5; what++) {
            int greatest = what == Edge.HOAR ? 10 : 100;
            AvalancheDesk desk = Edge.deskWith(1);
            Check.due("7: the least", desk.set(0, 0, what, 0), 0);
            Check.due("7: the greatest", desk.set(0, 0, what, greatest), 0);
            Check.due("7: the greatest is kept", desk.sector(0, 0, what), greatest);
            Check.due("7: the greatest once more", desk.set(0, 0, what, greatest), greatest);
            Check.due("7: just below it", desk.set(0, 0, what, greatest - 1), greatest);
            Check.due("7: the least again", desk.set(0, 0, what, 0), greatest - 1);
            Check.due("7: the least is kept", desk.sector(0, 0, what), 0);
        }
    }

    private static void promise7Refused() {
        for (int i = 0; i < 4; i++) {
            int region = Edge.outside(0, 1)[i];
            int sector = Edge.outside(0, 11)[i];
            int what = Edge.outside(0, 4)[i];
            for (int value : new int[] {0, -1, 101}) {
                refusedAtTwo("7: no such region", Edge.INDEX, at -> at.set(region, 0, 0, value));
                refusedAtTwo("7: no such sector", Edge.INDEX, at -> at.set(1, sector, 0, value));
                refusedAtTwo("7: no such number", Edge.INDEX, at -> at.set(1, 11, what, value));
            }
            for (int number = 0; number < 5; number++) {
                int which = number;
                int value = Edge.outside(0, number == Edge.HOAR ? 10 : 100)[i];
                refusedAtTwo("7: no such value of " + which, Edge.ARGUMENT, at -> at.set(1, 11, which, value));
            }
        }
        refusedAtTwo("7: hoar has a greatest one of its own", Edge.ARGUMENT, at -> at.set(1, 11, Edge.HOAR, 100));
    }

    private static void promise8() {
        AvalancheDesk desk = Edge.deskWith(6);
        for (int p = 0; p < 4; p++) {
            Check.due("8: 0 at first", desk.problem(5, 11, p), 0);
        }
        for (int i = 0; i < 4; i++) {
            int region = Edge.outside(0, 1)[i];
            int sector = Edge.outside(0, 11)[i];
            int problem = Edge.outside(0, 3)[i];
            refusedAtTwo("8: no such region", Edge.INDEX, at -> at.problem(region, 0, 0));
            refusedAtTwo("8: no such sector", Edge.INDEX, at -> at.problem(1, sector, 3));
            refusedAtTwo("8: no such problem", Edge.INDEX, at -> at.problem(1, 11, problem));
        }
    }

    private static void promise9() {
        AvalancheDesk desk = Edge.deskWith(6);
        Check.due("9: no danger at first", desk.danger(5, 11, false), 0);
        Check.due("9: level 1 at first", desk.danger(5, 11, true), 1);
        for (int what = 0; what < 4; what++) {
            desk.set(5, 11, what, 100);
        }
        Check.due("9: the greatest danger", desk.danger(5, 11, false), 125);
        Check.due("9: the greatest level", desk.danger(5, 11, true), 5);
        for (int i = 0; i < 4; i++) {
            int region = Edge.outside(0, 1)[i];
            int sector = Edge.outside(0, 11)[i];
            refusedAtTwo("9: no such region", Edge.INDEX, at -> at.danger(region, 0, false));
            refusedAtTwo("9: no such region, level", Edge.INDEX, at -> at.danger(region, 0, true));
            refusedAtTwo("9: no such sector", Edge.INDEX, at -> at.danger(1, sector, false));
            refusedAtTwo("9: no such sector, level", Edge.INDEX, at -> at.danger(1, sector, true));
        }
    }

    private static void promises10To12() {
        AvalancheDesk desk = Edge.deskWith(6);
        Check.due("10: level 1 at first", desk.level(5), 1);
        Check.due("11: all sectors at first", desk.core(5), 4095);
        Check.due("12: the first problem at first", desk.mainProblem(5), 0);
        for (int s = 0; s < 12; s++) {
            for (int what = 0; what < 4; what++) {
                desk.set(5, s, what, 100);
            }
        }
        Check.due("10: the greatest level", desk.level(5), 5);
        Check.due("11: all sectors of the greatest", desk.core(5), 4095);
        Check.due("12: the first of four", desk.mainProblem(5), 0);
        for (int region : Edge.outside(0, 1)) {
            refusedAtTwo("10: no such region", Edge.INDEX, at -> at.level(region));
            refusedAtTwo("11: no such region", Edge.INDEX, at -> at.core(region));
            refusedAtTwo("12: no such region", Edge.INDEX, at -> at.mainProblem(region));
        }
    }

    /** "The level that the region would have if this day ended with this weather": on day 60 too. */
    private static void promise13() {
        AvalancheDesk desk = Edge.deskWith(6);
        Check.due("13: the least ones", desk.outlook(5, 0, 0, 0, -30), 1);
        Check.due("13: the greatest ones", desk.outlook(5, 150, 120, 3, 15), 5);
        int[][] due = {{9, 1}, {10, 2}, {29, 2}, {30, 3}, {54, 3}, {55, 4}, {79, 4}, {80, 5}, {150, 5}};
        for (int[] d : due) {
            Check.due("13: snow " + d[0], desk.outlook(5, d[0], 0, 0, -20), d[1]);
        }
        Check.due("13: the level now", desk.level(5), 1);
        Check.due("13: no weather was told", desk.weather(5, 0, 0, 0, -20), true);
        AvalancheDesk last = Edge.deskWith(1);
        Edge.endDays(last, 60);
        Check.due("13: on day 60", last.outlook(0, 55, 0, 0, -20), 4);
        Check.due("13: it is still day 60", last.day(), 60);
    }

    private static void promise13Refused() {
        for (int[] w : wrongWeathers()) {
            refusedAtTwo("13: wrong weather", Edge.ARGUMENT, at -> at.outlook(1, w[0], w[1], w[2], w[3]));
            refusedAtTwo("13: the wrong region comes first", Edge.INDEX, at -> at.outlook(2, w[0], w[1], w[2], w[3]));
        }
        for (int region : Edge.outside(0, 1)) {
            refusedAtTwo("13: no such region", Edge.INDEX, at -> at.outlook(region, 0, 0, 0, 0));
        }
    }

    /** "If one was published on this day, or there are no regions." */
    private static void promise14() {
        Edge.refused("14: no regions", Edge.STATE, desk -> { }, AvalancheDesk::publish);
        Edge.refused("14: no regions on a later day", Edge.STATE, desk -> Edge.endDays(desk, 60),
            AvalancheDesk::publish);
        refusedAtTwo("14: one was published", Edge.STATE, AvalancheDesk::publish);
        Edge.refused("14: one was published before the last region came", Edge.STATE, desk -> {
            Edge.addRegions(desk, 2);
            desk.publish();
            desk.addRegion();
        }, AvalancheDesk::publish);
        AvalancheDesk desk = new AvalancheDesk();
        Check.due("14: refused", Edge.answer(desk::publish), Edge.STATE.getName());
        desk.addRegion();
        Check.due("14: the refused one does not count", desk.publish(), 1);
        for (int level = 1; level <= 5; level++) {
            AvalancheDesk six = Edge.deskWith(6);
            Edge.soak(six, level % 2 == 0 ? 0 : 5, Edge.leastDanger(level));
            Check.due("14: the greatest level of the first or last region", six.publish(), level);
        }
        AvalancheDesk last = Edge.deskWith(1);
        Edge.endDays(last, 60);
        Check.due("14: on day 60", last.publish(), 5);
    }

    /** "If there is no bulletin of this day, it does not tell of such a region, or what is not 0 to 2." */
    private static void promise15() {
        AvalancheDesk desk = Edge.deskWith(6);
        Edge.soak(desk, 5, 80);
        desk.publish();
        Edge.endDays(desk, 60);
        desk.publish();
        int[] due = {5, 16 + 128, 3};
        for (int what = 0; what < 3; what++) {
            Check.due("15: the first day, the last region", desk.bulletin(0, 5, what), due[what]);
        }
        Check.due("15: the last day, the first region", desk.bulletin(60, 0, 0), 5);
        for (int day : new int[] {-1, 1, 59, 61, Integer.MIN_VALUE, Integer.MAX_VALUE}) {
            Check.due("15: no bulletin of day " + day, Edge.answer(() -> desk.bulletin(day, 0, 0)),
                Edge.INDEX.getName());
        }
        for (int i = 0; i < 4; i++) {
            int day = Edge.outside(1, 1)[i];
            int region = Edge.outside(0, 1)[i];
            int what = Edge.outside(0, 2)[i];
            refusedAtTwo("15: no such day", Edge.INDEX, at -> at.bulletin(day, 0, 0));
            refusedAtTwo("15: no such region", Edge.INDEX, at -> at.bulletin(1, region, 0));
            refusedAtTwo("15: tells no such thing", Edge.INDEX, at -> at.bulletin(1, 1, what));
        }
        Edge.refused("15: no bulletin yet today", Edge.INDEX, at -> Edge.addRegions(at, 1), at -> at.bulletin(0, 0, 0));
        Edge.refused("15: a region that came later the same day", Edge.INDEX, at -> {
            at.addRegion();
            at.publish();
            at.addRegion();
        }, at -> at.bulletin(0, 1, 0));
        Edge.refused("15: nothing at all", Edge.INDEX, at -> { }, at -> at.bulletin(0, 0, 0));
    }

    private static void promise16() {
        AvalancheDesk desk = Edge.deskWith(1);
        Check.due("16: none", desk.bulletins(), 0);
        for (int d = 0; d <= 60; d++) {
            desk.publish();
            Check.due("16: after day " + d, desk.bulletins(), d + 1);
            Edge.answer(desk::publish);
            Check.due("16: a refused one does not count", desk.bulletins(), d + 1);
            Edge.answer(desk::end);
        }
        AvalancheDesk none = new AvalancheDesk();
        Edge.answer(none::publish);
        Check.due("16: refused without regions", none.bulletins(), 0);
    }

    /** "size is not 1 to 5", "no such region or sector". */
    private static void promise17() {
        AvalancheDesk desk = Edge.deskWith(6);
        Check.due("17: the least size", desk.see(0, 0, 1), 1);
        Check.due("17: the greatest size", desk.see(5, 11, 5), 25);
        for (int i = 0; i < 4; i++) {
            int region = Edge.outside(0, 1)[i];
            int sector = Edge.outside(0, 11)[i];
            int size = Edge.outside(1, 5)[i];
            refusedAtTwo("17: no such region", Edge.INDEX, at -> at.see(region, 0, 1));
            refusedAtTwo("17: no such sector", Edge.INDEX, at -> at.see(1, sector, 1));
            refusedAtTwo("17: no such size", Edge.ARGUMENT, at -> at.see(1, 11, size));
            refusedAtTwo("17: the wrong region comes first", Edge.INDEX, at -> at.see(region, 0, size));
            refusedAtTwo("17: the wrong sector comes first", Edge.INDEX, at -> at.see(1, sector, size));
        }
    }

    private static void with200(AvalancheDesk desk) {
        Edge.addRegions(desk, 2);
        Edge.seeMany(desk, 0, 5, 100);
        desk.end();
        desk.publish();
        Edge.seeMany(desk, 1, 1, 100);
    }

    /** "If 200 were noted": together, in whatever region, on whatever day. */
    private static void promise17Full() {
        AvalancheDesk desk = Edge.deskWith(1);
        Edge.seeMany(desk, 0, 5, 198);
        Check.due("17: the 199th", desk.see(0, 0, 5), 199 * 25);
        Check.due("17: the 200th", desk.see(0, 0, 5), 200 * 25);
        Check.due("17: the 201st", Edge.answer(() -> desk.see(0, 0, 5)), Edge.STATE.getName());
        Check.due("17: the activity of 200", desk.activity(0, 0), 5000);
        Edge.refused("17: the 201st of two days and regions", Edge.STATE, PromisesBoundariesTest::with200,
            at -> at.see(0, 11, 1));
        Edge.refused("17: the wrong region comes before 200", Edge.INDEX, PromisesBoundariesTest::with200,
            at -> at.see(2, 0, 1));
        Edge.refused("17: the wrong sector comes before 200", Edge.INDEX, PromisesBoundariesTest::with200,
            at -> at.see(0, 12, 0));
        Edge.refused("17: the wrong size comes before 200", Edge.ARGUMENT, PromisesBoundariesTest::with200,
            at -> at.see(0, 0, 6));
        AvalancheDesk withRefused = Edge.deskWith(1);
        Edge.seeMany(withRefused, 0, 1, 199);
        Edge.answer(() -> withRefused.see(0, 0, 0));
        Edge.answer(() -> withRefused.see(1, 0, 1));
        Check.due("17: refused ones are not among the 200", withRefused.see(0, 0, 1), 200);
    }

    /** "If day is not 0 to this day, or there is no such region." */
    private static void promise18() {
        AvalancheDesk desk = Edge.deskWith(6);
        Check.due("18: none on day 0", desk.activity(0, 5), 0);
        Check.due("18: tomorrow", Edge.answer(() -> desk.activity(1, 0)), Edge.INDEX.getName());
        desk.see(5, 0, 5);
        Edge.endDays(desk, 60);
        desk.see(5, 0, 1);
        Check.due("18: the first day", desk.activity(0, 5), 25);
        Check.due("18: a day between", desk.activity(59, 5), 0);
        Check.due("18: the last day", desk.activity(60, 5), 1);
        Check.due("18: another region", desk.activity(60, 0), 0);
        Check.due("18: after the last day", Edge.answer(() -> desk.activity(61, 5)), Edge.INDEX.getName());
        for (int i = 0; i < 4; i++) {
            int day = Edge.outside(0, 1)[i];
            int region = Edge.outside(0, 1)[i];
            refusedAtTwo("18: no such day", Edge.INDEX, at -> at.activity(day, 1));
            refusedAtTwo("18: no such region", Edge.INDEX, at -> at.activity(1, region));
            refusedAtTwo("18: no such day and region", Edge.INDEX, at -> at.activity(day, region));
        }
    }

    /** Notes avalanches whose squares add up to the activity. */
    private static void makeActivity(AvalancheDesk desk, int activity) {
        int left = activity;
        for (int size = 5; size >= 1; size--) {
            for (; left >= size * size; left -= size * size) {
                desk.see(0, 4, size);
            }
        }
    }

    /** "1 by at most 1, 2 by 0 to 9, 3 by 4 to 40, 4 by 25 to 120, 5 by at least 80." */
    private static void promise19() {
        int[][] due = {{1, 0, 0}, {1, 1, 0}, {1, 2, 1}, {1, 5000, 1}, {2, 0, 0}, {2, 9, 0}, {2, 10, 1}, {3, 0, -1},
            {3, 3, -1}, {3, 4, 0}, {3, 40, 0}, {3, 41, 1}, {4, 0, -1}, {4, 24, -1}, {4, 25, 0}, {4, 120, 0},
            {4, 121, 1}, {5, 0, -1}, {5, 79, -1}, {5, 80, 0}, {5, 5000, 0}};
        for (int[] d : due) {
            AvalancheDesk desk = Edge.deskWith(1);
            Edge.soak(desk, 0, Edge.leastDanger(d[0]));
            Check.due("19: no bulletin yet", desk.borneOut(0), 0);
            desk.publish();
            makeActivity(desk, d[1]);
            for (int how = -1; how <= 1; how++) {
                Check.due("19: level " + d[0] + ", activity " + d[1] + ", borneOut(" + how + ")", desk.borneOut(how),
                    how == d[2] ? 1 : 0);
            }
        }
        for (int how : Edge.outside(-1, 1)) {
            refusedAtTwo("19: no such how", Edge.ARGUMENT, at -> at.borneOut(how));
            Edge.refused("19: no such how, no bulletin", Edge.ARGUMENT, at -> { }, at -> at.borneOut(how));
        }
        AvalancheDesk most = Edge.deskWith(6);
        for (int d = 0; d < 60; d++) {
            most.publish();
            most.end();
        }
        most.publish();
        int all = most.borneOut(-1) + most.borneOut(0) + most.borneOut(1);
        Check.due("19: all levels in all bulletins", all, 61 * 6);
    }

    /** "1 if there are none": noted there, on days with a bulletin that tells of it. */
    private static void promise20() {
        AvalancheDesk desk = Edge.deskWith(2);
        Check.due("20: none noted", desk.inCore(0), 1.0);
        desk.see(0, 0, 1);
        Check.due("20: none on a day with a bulletin", desk.inCore(0), 1.0);
        Edge.soak(desk, 0, 80);
        desk.publish();
        Check.due("20: none of one", desk.inCore(0), 0.0);
        Check.due("20: none noted in this region", desk.inCore(1), 1.0);
        desk.see(0, 4, 5);
        Check.due("20: one of two", desk.inCore(0), 0.5);
        desk.see(0, 7, 1);
        Check.due("20: two of three", desk.inCore(0), 2.0 / 3.0);
        desk.addRegion();
        desk.see(2, 0, 1);
        Check.due("20: none of which a bulletin tells", desk.inCore(2), 1.0);
        AvalancheDesk all = Edge.deskWith(6);
        Edge.soak(all, 5, 80);
        all.publish();
        for (int i = 0; i < 200; i++) {
            all.see(5, i == 0 ? 0 : i % 2 == 0 ? 4 : 7, 1);
        }
        Check.due("20: 199 of 200", all.inCore(5), 199.0 / 200.0);
        for (int region : Edge.outside(0, 1)) {
            refusedAtTwo("20: no such region", Edge.INDEX, at -> at.inCore(region));
        }
        Edge.refused("20: no region at all", Edge.INDEX, at -> { }, at -> at.inCore(0));
    }
}
