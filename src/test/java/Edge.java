import java.util.function.Consumer;
import java.util.function.Supplier;

/**
 * What the boundary tests share. Desks are made anew for each case: the document promises nothing of a
 * desk after its 512th call, so no test here may come that far.
 */
final class Edge {
    static final Class<IndexOutOfBoundsException> INDEX = IndexOutOfBoundsException.class;
    static final Class<IllegalArgumentException> ARGUMENT = IllegalArgumentException.class;
    static final Class<IllegalStateException> STATE = IllegalStateException.class;

    static final int FRESH = 0;
    static final int DRIFT = 1;
    static final int WEAK = 2;
    static final int WET = 3;
    static final int HOAR = 4;

    /** Numbers below and above every range of the document. */
    private static final int[] FAR = {Integer.MIN_VALUE, Integer.MAX_VALUE};

    private Edge() {
    }

    static AvalancheDesk deskWith(int regions) {
        AvalancheDesk desk = new AvalancheDesk();
        addRegions(desk, regions);
        return desk;
    }

    static void addRegions(AvalancheDesk desk, int regions) {
        for (int r = 0; r < regions; r++) {
            desk.addRegion();
        }
    }

    static void endDays(AvalancheDesk desk, int days) {
        for (int d = 0; d < days; d++) {
            desk.end();
        }
    }

    static void addLegs(AvalancheDesk desk, int legs) {
        for (int i = 0; i < legs; i++) {
            desk.addLeg(i % 12, 20 + i);
        }
    }

    static void seeMany(AvalancheDesk desk, int region, int size, int times) {
        for (int i = 0; i < times; i++) {
            desk.see(region, 0, size);
        }
    }

    /** Two sectors, 4 and 7, get this wet number; it alone makes their danger, and theirs the region's level. */
    static void soak(AvalancheDesk desk, int region, int wet) {
        desk.set(region, 4, WET, wet);
        desk.set(region, 7, WET, wet);
    }

    /** The least danger of each level. */
    static int leastDanger(int level) {
        return new int[] {0, 0, 10, 30, 55, 80}[level];
    }

    /** What is just outside of the range and what is as far off as can be. */
    static int[] outside(int least, int greatest) {
        return new int[] {least - 1, greatest + 1, FAR[0], FAR[1]};
    }

    static String answer(Supplier<Object> call) {
        try {
            return String.valueOf(call.get());
        } catch (RuntimeException e) {
            return e.getClass().getName();
        }
    }

    /**
     * The call throws just this class, and the desk is as one on which it was not tried: by what it tells
     * then, by whether a weather was told, and by what the end of the day makes of it.
     */
    static void refused(String name, Class<? extends RuntimeException> kind, Consumer<AvalancheDesk> state,
            Consumer<AvalancheDesk> call) {
        same(name, kind, state, call, Edge::tells);
        same(name, kind, state, call, Edge::toldWeathers);
        same(name, kind, state, call, Edge::endsDay);
    }

    private interface Look {
        String at(AvalancheDesk desk);
    }

    private static void same(String name, Class<? extends RuntimeException> kind, Consumer<AvalancheDesk> state,
            Consumer<AvalancheDesk> call, Look look) {
        AvalancheDesk tried = made(state);
        String thrown = answer(() -> {
            call.accept(tried);
            return "nothing";
        });
        if (!thrown.equals(kind.getName())) {
            Check.fault(name + " threw " + thrown + ", due is " + kind.getName());
        }
        String got = look.at(tried);
        String want = look.at(made(state));
        if (!got.equals(want)) {
            Check.fault(name + " changed the desk though it was refused: " + got + ", was " + want);
        }
    }

    private static AvalancheDesk made(Consumer<AvalancheDesk> state) {
        AvalancheDesk desk = new AvalancheDesk();
        state.accept(desk);
        return desk;
    }

    private static String tells(AvalancheDesk desk) {
        StringBuilder text = new StringBuilder();
        text.append(desk.day()).append(' ').append(desk.digest()).append(' ').append(desk.bulletins());
        for (int how = -1; how <= 1; how++) {
            text.append(' ').append(desk.borneOut(how));
        }
        text.append(' ').append(desk.bestRegion());
        for (int r = 0; r < 6; r++) {
            int region = r;
            text.append(' ').append(answer(() -> desk.inCore(region)));
            text.append(' ').append(answer(() -> desk.worstLeg(region)));
        }
        return text.toString();
    }

    private static String toldWeathers(AvalancheDesk desk) {
        StringBuilder text = new StringBuilder();
        for (int r = 0; r < 6; r++) {
            int region = r;
            text.append(' ').append(answer(() -> desk.weather(region, 0, 0, 0, 0)));
        }
        return text.toString();
    }

    private static String endsDay(AvalancheDesk desk) {
        return answer(desk::end) + " " + desk.digest();
    }
}
