import java.lang.reflect.Constructor;
import java.lang.reflect.Field;
import java.lang.reflect.Method;
import java.lang.reflect.Modifier;
import java.util.ArrayList;
import java.util.Collections;
import java.util.List;

/** The public face: its very members, and what they say they throw. */
public final class FaceTest {
    private static final Expect EXPECT = new Expect("FaceTest");

    private static final String I = "IndexOutOfBoundsException ";
    private static final String A = "IllegalArgumentException ";
    private static final String S = "IllegalStateException ";

    private static final String[] FACE = {
        "int addFact(int int int ) " + A + S,
        "int addMove(int int int int ) " + I + A + S,
        "int addProcess(int ) " + A + S,
        "int addVariable(int int ) " + A + S,
        "double branching() ",
        "int count(int ) " + I,
        "int deed(int int int int int ) " + I + A,
        "long digest() ",
        "int explore() " + S,
        "int guard(int int int int int ) " + I + A,
        "boolean holds(int int ) " + I,
        "boolean isBad(int int ) " + I,
        "int leads(int int ) " + I + S,
        "int state(int int ) " + I,
        "int step(int int int ) " + I,
        "int stuck() " + S,
        "int trapped(int ) " + I + S,
        "int way(int int int ) " + I,
        "int where(int boolean ) " + I + S,
    };

    public static void main(String[] args) {
        List<String> seen = new ArrayList<>();
        for (Method m : FairChecker.class.getDeclaredMethods()) {
            if (!Modifier.isPrivate(m.getModifiers())) {
                seen.add(line(m));
            }
        }
        List<String> due = new ArrayList<>(List.of(FACE));
        Collections.sort(seen);
        Collections.sort(due);
        EXPECT.isTrue("the face is " + due + ", it was " + seen + ", which", seen.equals(due));
        for (Field f : FairChecker.class.getDeclaredFields()) {
            EXPECT.isTrue(f + " is private: it", Modifier.isPrivate(f.getModifiers()));
        }
        Constructor<?>[] constructors = FairChecker.class.getDeclaredConstructors();
        EXPECT.same("constructors", constructors.length, 1);
        EXPECT.isTrue("it is public: that", Modifier.isPublic(constructors[0].getModifiers()));
        EXPECT.isTrue("the class is final: that", Modifier.isFinal(FairChecker.class.getModifiers()));
        noPrivateMethodBearsAPublicName();
        EXPECT.end();
    }

    private static String line(Method m) {
        StringBuilder text = new StringBuilder();
        text.append(m.getReturnType()).append(' ').append(m.getName()).append('(');
        for (Class<?> c : m.getParameterTypes()) {
            text.append(c).append(' ');
        }
        text.append(") ");
        for (Class<?> c : m.getExceptionTypes()) {
            text.append(c.getSimpleName()).append(' ');
        }
        return text.toString();
    }

    private static void noPrivateMethodBearsAPublicName() {
        for (Method m : FairChecker.class.getDeclaredMethods()) {
            for (Method own : FairChecker.class.getDeclaredMethods()) {
                boolean bears = Modifier.isPrivate(m.getModifiers()) && Modifier.isPublic(own.getModifiers())
                    && own.getName().equals(m.getName());
                EXPECT.isTrue(m + " does not bear a public name: that", !bears);
            }
        }
        for (Class<?> inner : FairChecker.class.getDeclaredClasses()) {
            EXPECT.isTrue(inner + " is static: that", Modifier.isStatic(inner.getModifiers()));
            for (Method m : inner.getDeclaredMethods()) {
                for (Method own : FairChecker.class.getDeclaredMethods()) {
                    EXPECT.isTrue(m + " has a name of its own: that", !own.getName().equals(m.getName()));
                }
            }
        }
    }
}
