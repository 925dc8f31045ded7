import java.io.IOException;
import java.lang.reflect.Method;
import java.lang.reflect.Modifier;
import java.nio.file.Files;
import java.nio.file.Path;
import java.util.ArrayList;
import java.util.List;

/** README.md: its example is a run that answers just what stands behind it, and it names every call. */
public final class ReadmeTest {
    private static final String START = "```java";
    private static final String END = "```";

    /** The lines of the example, with what they answer, in the order in which they are read below. */
    private static List<String> example;
    private static int line = 0;

    public static void main(String[] args) throws IOException {
        List<String> page = Files.readAllLines(Path.of("README.md"));
        example = exampleOf(page);
        playExample();
        Check.due("README: lines of the example", line, example.size());
        checkNames(String.join("\n", page));
        Check.finish();
    }

    private static List<String> exampleOf(List<String> page) {
        List<String> lines = new ArrayList<>();
        boolean isInside = false;
        for (String text : page) {
            if (isInside && text.equals(END)) {
                return lines;
            }
            if (isInside) {
                lines.add(text);
            }
            isInside |= text.equals(START);
        }
        return lines;
    }

    private static void playExample() {
        shows("AvalancheDesk desk = new AvalancheDesk();", "");
        AvalancheDesk desk = new AvalancheDesk();
        int region = desk.addRegion();
        shows("int region = desk.addRegion();", region);
        shows("desk.outlook(region, 90, 50, 3, -4);", desk.outlook(region, 90, 50, 3, -4));
        shows("desk.weather(region, 40, 50, 3, -4);", desk.weather(region, 40, 50, 3, -4));
        shows("desk.end();", desk.end());
        shows("desk.sector(region, 9, 1);", desk.sector(region, 9, 1));
        shows("desk.set(region, 9, 2, 70);", desk.set(region, 9, 2, 70));
        shows("desk.problem(region, 9, 2);", desk.problem(region, 9, 2));
        shows("desk.danger(region, 9, false);", desk.danger(region, 9, false));
        shows("desk.danger(region, 9, true);", desk.danger(region, 9, true));
        shows("desk.level(region);", desk.level(region));
        shows("desk.core(region);", desk.core(region));
        shows("desk.mainProblem(region);", desk.mainProblem(region));
        shows("desk.publish();", desk.publish());
        shows("desk.bulletin(1, region, 1);", desk.bulletin(1, region, 1));
        shows("desk.see(region, 9, 3);", desk.see(region, 9, 3));
        shows("desk.see(region, 1, 1);", desk.see(region, 1, 1));
        shows("desk.borneOut(0);", desk.borneOut(0));
        shows("desk.inCore(region);", desk.inCore(region));
        shows("desk.addLeg(9, 34);", desk.addLeg(9, 34));
        shows("desk.addLeg(1, 41);", desk.addLeg(1, 41));
        shows("desk.risk(region, 0);", desk.risk(region, 0));
        shows("desk.worstLeg(region);", desk.worstLeg(region));
        shows("desk.bestRegion();", desk.bestRegion());
    }

    /** The next line of the example is this code, and behind it stands this answer, with or without a word on it. */
    private static void shows(String code, Object answer) {
        String text = line < example.size() ? example.get(line) : "";
        line++;
        String[] parts = text.split("//", 2);
        String told = parts.length < 2 ? "" : parts[1].split(",", 2)[0].strip();
        Check.due("README: code of line " + line, parts[0].strip(), code);
        Check.due("README: answer of line " + line + ", " + code, told, String.valueOf(answer));
    }

    private static void checkNames(String page) {
        for (Method m : AvalancheDesk.class.getDeclaredMethods()) {
            if (Modifier.isPublic(m.getModifiers()) && !page.contains("`" + m.getName() + "(")) {
                Check.fault("README names no call " + m.getName());
            }
        }
    }
}
