import java.lang.reflect.Constructor;
import java.lang.reflect.Field;
import java.lang.reflect.Member;
import java.lang.reflect.Method;
import java.lang.reflect.Modifier;
import java.util.Arrays;
import java.util.List;
import java.util.TreeSet;

/** The public face has the document's members, with the exceptions that they name, and no other that is not private. */
public final class FaceTest {
    private static final Check CHECK = new Check();

    private static final List<String> DUE = List.of(
            "int NONE", "TripRounds()", "int node()", "int zone(int,int,int)", "int street(int,int,int,int,int)",
            "int toll(int,int)", "boolean open(int,boolean)", "int weight(int,int,int)", "int size(int,int,int)",
            "int rounds(int,int)", "int trips(int,int)", "int sum(int,int)", "int factor(int)",
            "int pull(int,int,int,int)", "int chosen(int,int,int)", "int assign(int)", "int flow(int,int)",
            "int way(int,int,int)", "int least(int,int)", "int link(int,int,int)", "long gap()",
            "int count(int,int)", "int fit(int)");
    private static final List<String> WITH_BOTH = List.of("zone", "street", "fit");

    public static void main(String[] args) {
        TreeSet<String> got = new TreeSet<>();
        for (Field f : TripRounds.class.getDeclaredFields()) {
            addSeen(got, f, f.getType() + " " + f.getName());
        }
        for (Constructor<?> c : TripRounds.class.getDeclaredConstructors()) {
            addSeen(got, c, "TripRounds" + parameters(c.getParameterTypes()));
        }
        for (Method m : TripRounds.class.getDeclaredMethods()) {
            addSeen(got, m, m.getReturnType() + " " + m.getName() + parameters(m.getParameterTypes()));
            checkThrows(m);
        }
        for (String due : DUE) {
            CHECK.same("the face has " + due, 1, got.remove(due) ? 1 : 0);
        }
        for (String more : got) {
            CHECK.tell("the face has " + more + ", which the document does not");
        }
        CHECK.same("final", 1, Modifier.isFinal(TripRounds.class.getModifiers()) ? 1 : 0);
        checkClassesInside();
        CHECK.end();
    }

    private static void addSeen(TreeSet<String> got, Member member, String text) {
        if (!Modifier.isPrivate(member.getModifiers()) && !member.isSynthetic()) {
            got.add(text);
            CHECK.same(text + " is public", 1, Modifier.isPublic(member.getModifiers()) ? 1 : 0);
        }
    }

    private static void checkClassesInside() {
        TreeSet<String> names = new TreeSet<>();
        for (Method m : TripRounds.class.getDeclaredMethods()) {
            CHECK.same("a second " + m.getName(), 0, !m.isSynthetic() && !names.add(m.getName()) ? 1 : 0);
        }
        for (Class<?> inside : TripRounds.class.getDeclaredClasses()) {
            int is = inside.getModifiers();
            CHECK.same(inside + " is static", 1, Modifier.isStatic(is) ? 1 : 0);
            CHECK.same(inside + " is seen from outside", 0, Modifier.isPublic(is) || Modifier.isProtected(is) ? 1 : 0);
            for (Method m : inside.getDeclaredMethods()) {
                CHECK.same(inside + " has a " + m.getName() + " too", 0, names.contains(m.getName()) ? 1 : 0);
            }
        }
    }

    private static void checkThrows(Method m) {
        if (!Modifier.isPublic(m.getModifiers())) {
            return;
        }
        List<Class<?>> due = switch (m.getName()) {
            case "gap" -> List.of();
            case "node" -> List.of(IllegalStateException.class);
            default -> WITH_BOTH.contains(m.getName())
                    ? List.of(IllegalArgumentException.class, IllegalStateException.class)
                    : List.of(IllegalArgumentException.class);
        };
        CHECK.text(m.getName() + "'s exceptions", due.toString(), Arrays.toString(m.getExceptionTypes()));
    }

    private static String parameters(Class<?>[] types) {
        String text = Arrays.toString(types).replace(" ", "");
        return "(" + text.substring(1, text.length() - 1) + ")";
    }
}
