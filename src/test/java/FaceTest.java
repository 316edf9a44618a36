import java.lang.reflect.Constructor;
import java.lang.reflect.Field;
import java.lang.reflect.Method;
import java.lang.reflect.Modifier;
import java.util.Set;
import java.util.TreeSet;

/** The class has the document's face, with its exceptions, and nothing else that can be seen. */
public final class FaceTest {
    private static final String[] FACE = {
        "int feed(int,int,int,int,int) ISE", "int trim(int) IAE", "int teach()", "int errorAt()",
        "int wrestlers()", "int wrestlersIn()", "int rules()", "int rounds()", "int tapeBytes()",
        "int bouts()", "int openBouts()",
        "int strengthOf(int) IOO", "int pointsOf(int) IOO", "int winsOf(int) IOO",
        "int drawsOf(int) IOO", "int lossesOf(int) IOO", "int restsOf(int) IOO",
        "int beltsOf(int) IOO", "int floatsOf(int) IOO", "int pointsOfMet(int) IOO",
        "int rankOf(int) IOO", "boolean isIn(int) IOO", "int wrestlerAt(int) IOO",
        "int timesMet(int,int) IOO", "int redOf(int) IOO", "int blueOf(int) IOO",
        "int outcomeOf(int) IOO ISE", "int ruledOutcome(int) IOO", "int opponentOf(int) IOO ISE",
        "int restingOne() ISE", "int pairRound() ISE", "int tell(int,int) IOO IAE ISE",
        "int tellByRules() ISE", "boolean turnIn(int) IOO", "int nextOpponentOf(int) IOO ISE",
        "int nextRematches() ISE", "int leaderAfter(int) IAE ISE", "int pointsAfter(int,int) IOO IAE",
        "double meanPoints()", "long digest()",
    };

    public static void main(String[] args) {
        Class<?> face = BeltRounds.class;
        Check.same("modifiers", Modifier.toString(face.getModifiers()), "public final");
        Set<String> names = new TreeSet<>();
        Set<String> seen = new TreeSet<>();
        for (Method m : face.getDeclaredMethods()) {
            if (!m.isSynthetic() && !Modifier.isPrivate(m.getModifiers())) {
                seen.add(textOf(m));
                names.add(m.getName());
            }
        }
        Check.same("methods", seen, new TreeSet<>(Set.of(FACE)));
        for (Constructor<?> c : face.getDeclaredConstructors()) {
            Check.same("constructor", c.toString(), "public BeltRounds()");
        }
        noPrivateNamesake(face, names);
        privateFields(face);
        for (Class<?> inner : face.getDeclaredClasses()) {
            int modifiers = inner.getModifiers();
            Check.holds(inner + " is static", Modifier.isStatic(modifiers));
            Check.holds(inner + " is hidden", !Modifier.isPublic(modifiers) && !Modifier.isProtected(modifiers));
            noPrivateNamesake(inner, names);
        }
        Check.end("FaceTest");
    }

    private static void noPrivateNamesake(Class<?> type, Set<String> names) {
        for (Method m : type.getDeclaredMethods()) {
            boolean hidden = !m.isSynthetic() && Modifier.isPrivate(m.getModifiers());
            Check.holds(m + " bears no public name", !hidden || !names.contains(m.getName()));
        }
    }

    private static void privateFields(Class<?> type) {
        for (Field f : type.getDeclaredFields()) {
            Check.holds(f + " is private", Modifier.isPrivate(f.getModifiers()));
            boolean open = Modifier.isStatic(f.getModifiers()) && !Modifier.isFinal(f.getModifiers());
            Check.holds(f + " is final if it is static", !open);
        }
    }

    private static String textOf(Method m) {
        StringBuilder text = new StringBuilder();
        text.append(m.getReturnType()).append(' ').append(m.getName()).append('(');
        for (int i = 0; i < m.getParameterCount(); i++) {
            text.append(i == 0 ? "" : ",").append(m.getParameterTypes()[i]);
        }
        text.append(')');
        for (Class<?> e : m.getExceptionTypes()) {
            text.append(' ').append(shortName(e));
        }
        return text.toString();
    }

    private static String shortName(Class<?> e) {
        return e == IllegalStateException.class ? "ISE"
                : e == IllegalArgumentException.class ? "IAE"
                : e == IndexOutOfBoundsException.class ? "IOO" : e.getName();
    }
}
