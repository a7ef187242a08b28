import java.lang.reflect.Constructor;
import java.lang.reflect.Field;
import java.lang.reflect.Method;
import java.lang.reflect.Modifier;
import java.util.Set;
import java.util.TreeSet;

/** The public face is the document's, no more and no less. */
public final class FaceTest {
    private static final String[] FACE = {
        "NONE int",
        "SeatOffice()",
        "school() int",
        "kind(int,int,int,int,int) int",
        "pupil(int,boolean) int",
        "wish(int,int) int",
        "draw(int,int,int) boolean",
        "run() int",
        "answer(int,int) boolean",
        "stay(int,int) boolean",
        "chain() int",
        "appeal(int,int) boolean",
        "over(int,int) boolean",
        "seat(int,int) int",
        "held(int,int,int) int",
        "blocking(int) int",
        "envies(int,int) boolean",
        "why(int,int) int",
        "look(int) int",
    };

    public static void main(String[] args) {
        Check.part("face");
        Set<String> due = new TreeSet<>(Set.of(FACE));
        Check.same("the face", due.toString(), visible().toString());
        int modifiers = SeatOffice.class.getModifiers();
        Check.yes("public final class", Modifier.isPublic(modifiers) && Modifier.isFinal(modifiers));
        Check.is("NONE", SeatOffice.NONE, -1);
        Check.is("private methods with a public one's name", sharedNames(), 0);
        Check.end();
    }

    private static Set<String> visible() {
        Set<String> all = new TreeSet<>();
        for (Field f : SeatOffice.class.getDeclaredFields()) {
            if (!Modifier.isPrivate(f.getModifiers())) {
                all.add(f.getName() + " " + f.getType().getSimpleName());
            }
        }
        for (Constructor<?> c : SeatOffice.class.getDeclaredConstructors()) {
            if (!Modifier.isPrivate(c.getModifiers())) {
                all.add("SeatOffice(" + names(c.getParameterTypes()) + ")");
            }
        }
        for (Method m : SeatOffice.class.getDeclaredMethods()) {
            if (!Modifier.isPrivate(m.getModifiers())) {
                all.add(m.getName() + "(" + names(m.getParameterTypes()) + ") "
                        + m.getReturnType().getSimpleName());
            }
        }
        return all;
    }

    private static String names(Class<?>[] types) {
        StringBuilder all = new StringBuilder();
        for (Class<?> t : types) {
            all.append(all.length() == 0 ? "" : ",").append(t.getSimpleName());
        }
        return all.toString();
    }

    private static int sharedNames() {
        int shared = 0;
        for (Method m : SeatOffice.class.getDeclaredMethods()) {
            for (String line : FACE) {
                if (Modifier.isPrivate(m.getModifiers()) && line.startsWith(m.getName() + "(")) {
                    shared++;
                }
            }
        }
        return shared;
    }
}
