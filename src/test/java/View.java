/** All that a desk tells by calls that change nothing, as one text. */
final class View {
    private View() {
    }

    static String of(AvalancheDesk desk) {
        StringBuilder text = new StringBuilder();
        text.append("day ").append(desk.day()).append(" digest ").append(desk.digest());
        text.append(" bulletins ").append(desk.bulletins());
        for (int how = -1; how <= 1; how++) {
            text.append(" borne ").append(desk.borneOut(how));
        }
        text.append(" best ").append(desk.bestRegion());
        for (int r = 0; r < regionsOf(desk); r++) {
            addRegion(text, desk, r);
        }
        return text.toString();
    }

    private static void addRegion(StringBuilder text, AvalancheDesk desk, int r) {
        text.append("\nregion ").append(r).append(" core ").append(desk.inCore(r));
        text.append(" worst ").append(desk.worstLeg(r));
        for (int s = 0; s < 12; s++) {
            for (int what = 0; what < 5; what++) {
                text.append(' ').append(desk.sector(r, s, what));
            }
        }
        for (int d = 0; d <= desk.day(); d++) {
            text.append(" activity ").append(desk.activity(d, r));
            for (int what = 0; what < 3; what++) {
                text.append(' ').append(told(desk, d, r, what));
            }
        }
        for (int leg = 0; leg < 21; leg++) {
            text.append(' ').append(risk(desk, r, leg));
        }
    }

    private static int regionsOf(AvalancheDesk desk) {
        int count = 0;
        try {
            for (int r = 0; r < 100; r++) {
                desk.level(r);
                count++;
            }
        } catch (IndexOutOfBoundsException e) {
            return count;
        }
        return count;
    }

    private static String told(AvalancheDesk desk, int day, int region, int what) {
        try {
            return "" + desk.bulletin(day, region, what);
        } catch (IndexOutOfBoundsException e) {
            return "-";
        }
    }

    private static String risk(AvalancheDesk desk, int region, int leg) {
        try {
            return "" + desk.risk(region, leg);
        } catch (IndexOutOfBoundsException e) {
            return "-";
        }
    }
}
