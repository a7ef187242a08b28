import java.lang.reflect.Constructor;
import java.lang.reflect.Field;
import java.lang.reflect.Method;
import java.lang.reflect.Modifier;
import java.util.Set;
import java.util.TreeSet;

/** The public face is the document's, no more and no less. */
public final class FaceTest {
    private static final String[] FACE = {
        "NONE int",
        "SeatOffice()",
        "school() int throws IllegalStateException",
        "kind(int,int,int,int,int) int throws IllegalArgumentException,IllegalStateException",
        "pupil(int,boolean) int throws IllegalArgumentException,IllegalStateException",
        "wish(int,int) int throws IllegalArgumentException,IllegalStateException",
        "draw(int,int,int) boolean",
        "run() int throws IllegalStateException",
        "answer(int,int) boolean",
        "stay(int,int) boolean",
        "chain() int throws IllegalStateException",
        "appeal(int,int) boolean",
        "over(int,int) boolean throws IllegalArgumentException,IllegalStateException",
        "seat(int,int) int",
        "held(int,int,int) int",
        "blocking(int) int",
        "envies(int,int) boolean throws IllegalArgumentException",
        "why(int,int) int",
        "look(int) int",
    };

    public static void main(String[] args) {
        Check.part("face");
        Set<String> due = new TreeSet<>(Set.of(FACE));
        Check.text("the face", visible().toString(), due.toString());
        Check.text("the document's face", told().toString(), due.toString());
        int modifiers = SeatOffice.class.getModifiers();
        Check.yes("public final class", Modifier.isPublic(modifiers) && Modifier.isFinal(modifiers));
        Check.is("NONE", SeatOffice.NONE, -1);
        Check.is("private methods with a public one's name", sharedNames(), 0);
        Check.is("classes inside that are not static, or public", looseClasses(), 0);
        Check.is("static fields that are not final", loosePlaces(), 0);
        Check.end();
    }

    /** The face as it stands in the document, without the names of the parameters. */
    private static Set<String> told() {
        Set<String> all = new TreeSet<>();
        for (String line : Document.section("The public face")) {
            if (line.startsWith("public ") && line.endsWith(";")) {
                all.add(told(line.substring("public ".length(), line.length() - 1)));
            }
        }
        return all;
    }

    private static String told(String member) {
        int open = member.indexOf('(');
        if (open < 0) {
            return member.replaceAll("static final (\\w+) (\\w+) = .*", "$2 $1");
        }
        String[] head = member.substring(0, open).split(" ");
        String name = head[head.length - 1];
        String answer = head.length > 1 ? " " + head[0] : "";
        int close = member.indexOf(')');
        String types = member.substring(open + 1, close).replaceAll("(\\w+) \\w+", "$1").replace(", ", ",");
        return name + "(" + types + ")" + answer + member.substring(close + 1).replace(", ", ",");
    }

    private static Set<String> visible() {
        Set<String> all = new TreeSet<>();
        for (Field f : SeatOffice.class.getDeclaredFields()) {
            if (!Modifier.isPrivate(f.getModifiers())) {
                all.add(f.getName() + " " + f.getType().getSimpleName());
            }
        }
        for (Constructor<?> c : SeatOffice.class.getDeclaredConstructors()) {
            if (!Modifier.isPrivate(c.getModifiers())) {
                all.add("SeatOffice(" + names(c.getParameterTypes()) + ")");
            }
        }
        for (Method m : SeatOffice.class.getDeclaredMethods()) {
            if (!Modifier.isPrivate(m.getModifiers())) {
                String thrown = names(m.getExceptionTypes());
                all.add(m.getName() + "(" + names(m.getParameterTypes()) + ") "
                        + m.getReturnType().getSimpleName() + (thrown.isEmpty() ? "" : " throws " + thrown));
            }
        }
        return all;
    }

    private static String names(Class<?>[] types) {
        StringBuilder all = new StringBuilder();
        for (Class<?> t : types) {
            all.append(all.length() == 0 ? "" : ",").append(t.getSimpleName());
        }
        return all.toString();
    }

    private static int sharedNames() {
        int shared = 0;
        for (Method m : SeatOffice.class.getDeclaredMethods()) {
            for (String line : FACE) {
                if (Modifier.isPrivate(m.getModifiers()) && line.startsWith(m.getName() + "(")) {
                    shared++;
                }
            }
        }
        return shared;
    }

    private static int looseClasses() {
        int loose = 0;
        for (Class<?> inside : SeatOffice.class.getDeclaredClasses()) {
            int modifiers = inside.getModifiers();
            boolean hidden = !Modifier.isPublic(modifiers) && !Modifier.isProtected(modifiers);
            loose += hidden && Modifier.isStatic(modifiers) ? 0 : 1;
        }
        return loose;
    }

    private static int loosePlaces() {
        int loose = 0;
        for (Field f : SeatOffice.class.getDeclaredFields()) {
            loose += Modifier.isStatic(f.getModifiers()) && !Modifier.isFinal(f.getModifiers()) ? 1 : 0;
        }
        return loose;
    }
}
