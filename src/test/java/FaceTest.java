import java.lang.reflect.Constructor;
import java.lang.reflect.Field;
import java.lang.reflect.Member;
import java.lang.reflect.Method;
import java.lang.reflect.Modifier;
import java.util.Set;
import java.util.TreeSet;

/** The public face is the document's, and no other member can be seen from outside (LANGUAGE.md, rule 1). */
public final class FaceTest {
    private static final String STATE = " IllegalStateException";
    private static final String INDEX = " IndexOutOfBoundsException";
    private static final String ARGUMENT = " IllegalArgumentException";

    public static void main(String[] args) {
        Set<String> due = Set.of(
            "int addRegion()" + STATE,
            "boolean weather(int,int,int,int,int)" + INDEX + ARGUMENT,
            "int end()" + STATE,
            "int day()",
            "int sector(int,int,int)" + INDEX,
            "int set(int,int,int,int)" + INDEX + ARGUMENT,
            "int problem(int,int,int)" + INDEX,
            "int danger(int,int,boolean)" + INDEX,
            "int level(int)" + INDEX,
            "int core(int)" + INDEX,
            "int mainProblem(int)" + INDEX,
            "int outlook(int,int,int,int,int)" + INDEX + ARGUMENT,
            "int publish()" + STATE,
            "int bulletin(int,int,int)" + INDEX,
            "int bulletins()",
            "int see(int,int,int)" + INDEX + ARGUMENT + STATE,
            "int activity(int,int)" + INDEX,
            "int borneOut(int)" + ARGUMENT,
            "double inCore(int)" + INDEX,
            "int addLeg(int,int)" + ARGUMENT + STATE,
            "int clearRoute()",
            "int risk(int,int)" + INDEX,
            "int worstLeg(int)" + INDEX,
            "int bestRegion()",
            "long digest()");
        Set<String> seen = new TreeSet<>();
        for (Method m : AvalancheDesk.class.getDeclaredMethods()) {
            if (isSeen(m)) {
                seen.add(signature(m));
            }
        }
        if (!seen.equals(due)) {
            Check.fault("the methods are " + seen + ", due are " + new TreeSet<>(due));
        }
        Set<String> names = new TreeSet<>();
        for (String signature : due) {
            names.add(signature.substring(signature.indexOf(' ') + 1, signature.indexOf('(')));
        }
        checkHidden(AvalancheDesk.class, names);
        for (Class<?> inside : AvalancheDesk.class.getDeclaredClasses()) {
            checkHidden(inside, names);
        }
        for (Field f : AvalancheDesk.class.getDeclaredFields()) {
            if (isSeen(f)) {
                Check.fault("the field " + f.getName() + " is not in the document");
            }
        }
        Constructor<?>[] constructors = AvalancheDesk.class.getDeclaredConstructors();
        Check.due("number of constructors", constructors.length, 1);
        Check.due("parameters of the constructor", constructors[0].getParameterCount(), 0);
        Check.due("modifiers of the class", AvalancheDesk.class.getModifiers(), Modifier.PUBLIC | Modifier.FINAL);
        Check.finish();
    }

    /** LANGUAGE.md, rules 1 and 5: no private method with a public one's name, no static state. */
    private static void checkHidden(Class<?> type, Set<String> names) {
        for (Method m : type.getDeclaredMethods()) {
            boolean isFace = type == AvalancheDesk.class && isSeen(m);
            if (!isFace && !m.isSynthetic() && names.contains(m.getName())) {
                Check.fault("the hidden method " + m.getName() + " bears the name of a public one");
            }
        }
        for (Field f : type.getDeclaredFields()) {
            if (Modifier.isStatic(f.getModifiers()) && !Modifier.isFinal(f.getModifiers())) {
                Check.fault("the static field " + f.getName() + " is not final");
            }
        }
    }

    private static boolean isSeen(Member m) {
        return !Modifier.isPrivate(m.getModifiers()) && !m.isSynthetic();
    }

    private static String signature(Method m) {
        StringBuilder text = new StringBuilder();
        text.append(m.getReturnType().getName()).append(' ').append(m.getName()).append('(');
        String comma = "";
        for (Class<?> type : m.getParameterTypes()) {
            text.append(comma).append(type.getName());
            comma = ",";
        }
        text.append(')');
        for (Class<?> type : m.getExceptionTypes()) {
            text.append(' ').append(type.getSimpleName());
        }
        return text.toString();
    }
}
