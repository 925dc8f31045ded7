/**
 * What a desk is like, as one text. It asks three calls alone, so that a test with many refusals still keeps
 * to the 512 calls on an object that the document promises; `Edge.refused` looks at the rest on new desks.
 */
final class View {
    private View() {
    }

    static String of(AvalancheDesk desk) {
        StringBuilder text = new StringBuilder();
        text.append("digest ").append(desk.digest());
        text.append(" less ").append(desk.borneOut(-1));
        text.append(" borne out ").append(desk.borneOut(0));
        return text.toString();
    }
}
