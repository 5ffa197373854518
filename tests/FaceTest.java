import java.lang.reflect.Constructor;
import java.lang.reflect.Field;
import java.lang.reflect.Method;
import java.lang.reflect.Modifier;
import java.util.Arrays;
import java.util.TreeSet;

/** The public face is the document's, and nothing beside it is to be seen. */
public final class FaceTest {
    private static final String[] METHODS = {
        "int owner()", "int wall(int, int)", "int sell(int, int, int)", "int wait(int)",
        "int feed(int, int, int, int, int)", "int rule(int)", "int fault()", "int counted(int, int)",
        "int work(int, int, int, int, int, int)", "int state(int)", "int notice(int)",
        "int answer(int, boolean)", "int told(int, int)", "int surveyor(int)",
        "int appoint(int, int, int, int)", "int surveys(int, int)", "int propose(int, int, int, int, int)",
        "int appeal(int)", "int begin(int)", "int done(int)", "int enter(int, int)",
        "int entries(int, int)", "int build(int, int, int, int, int)", "int lower(int, int, int)",
        "int use(int, int, int, int, int)", "int cell(int, int, int, int)", "int spend(int, int)",
        "int secure(int, int)", "int settle(int, int)", "int mend(int, int)", "int payment(int, int)",
        "long balance(int, int, int)", "int hand(int)", "int survey(int)", "int crack(int, int, int)",
        "int joined(int, int, int)", "int pair(int, int, int)", "int gauge()", "int read(int, int, int)",
        "int at(int, int)", "long cause(int, int, int, int, int)", "boolean blamed(int, int, int, int)",
        "int count(int)"
    };

    public static void main(String[] args) {
        Check.due("public and final", Modifier.isPublic(PartyWalls.class.getModifiers())
                && Modifier.isFinal(PartyWalls.class.getModifiers()), true);
        TreeSet<String> want = new TreeSet<>(Arrays.asList(METHODS));
        for (Method method : PartyWalls.class.getDeclaredMethods()) {
            if (Modifier.isPrivate(method.getModifiers()) || method.isSynthetic()) {
                continue;
            }
            String seen = told(method);
            Check.due("in the face: " + seen, Modifier.isPublic(method.getModifiers()) && want.remove(seen), true);
        }
        for (String missing : want) {
            Check.due("missing: " + missing, false, true);
        }
        constructors();
        fields();
        classesInside();
        Check.end();
    }

    private static String told(Method method) {
        StringBuilder told = new StringBuilder();
        told.append(Modifier.isStatic(method.getModifiers()) ? "static " : "");
        told.append(method.getReturnType()).append(' ').append(method.getName()).append('(');
        for (Class<?> type : method.getParameterTypes()) {
            told.append(told.charAt(told.length() - 1) == '(' ? "" : ", ").append(type);
        }
        return told.append(')').toString();
    }

    private static void constructors() {
        Constructor<?>[] all = PartyWalls.class.getDeclaredConstructors();
        Check.due("constructors", all.length, 1);
        Check.due("its parameters", all[0].getParameterCount(), 0);
        Check.due("it is public", Modifier.isPublic(all[0].getModifiers()), true);
    }

    private static void fields() {
        int seen = 0;
        for (Field field : PartyWalls.class.getDeclaredFields()) {
            if (!Modifier.isPrivate(field.getModifiers()) && !field.isSynthetic()) {
                seen++;
                Check.due("in the face: " + field.getName(),
                        field.getName().equals("NONE") || field.getName().equals("VOIDED"), true);
            }
        }
        Check.due("constants", seen, 2);
    }

    private static void classesInside() {
        TreeSet<String> face = new TreeSet<>();
        for (Method method : PartyWalls.class.getDeclaredMethods()) {
            if (Modifier.isPublic(method.getModifiers())) {
                face.add(method.getName());
            }
        }
        for (Class<?> inside : PartyWalls.class.getDeclaredClasses()) {
            Check.due(inside + " is private and static", Modifier.isPrivate(inside.getModifiers())
                    && Modifier.isStatic(inside.getModifiers()), true);
            for (Method method : inside.getDeclaredMethods()) {
                Check.due(inside + " bears the name of the face: " + method.getName(),
                        face.contains(method.getName()), false);
            }
        }
    }
}
