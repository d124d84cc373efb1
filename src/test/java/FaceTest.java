import java.lang.reflect.Constructor;
import java.lang.reflect.Field;
import java.lang.reflect.Member;
import java.lang.reflect.Method;
import java.lang.reflect.Modifier;
import java.util.Arrays;
import java.util.List;
import java.util.TreeSet;

/** The public face has the document's members and no other that is not private. */
public final class FaceTest {
    private static final Check CHECK = new Check();

    private static final List<String> DUE = List.of(
            "int NONE", "TripRounds()", "int node()", "int zone(int,int,int)", "int street(int,int,int,int,int)",
            "int toll(int,int)", "boolean open(int,boolean)", "int weight(int,int,int)", "int size(int,int,int)",
            "int rounds(int,int)", "int trips(int,int)", "int sum(int,int)", "int factor(int)",
            "int pull(int,int,int,int)", "int chosen(int,int,int)", "int assign(int)", "int flow(int,int)",
            "int way(int,int,int)", "int least(int,int)", "int link(int,int,int)", "long gap()",
            "int count(int,int)", "int fit(int)");

    public static void main(String[] args) {
        TreeSet<String> got = new TreeSet<>();
        for (Field f : TripRounds.class.getDeclaredFields()) {
            addSeen(got, f, f.getType() + " " + f.getName());
        }
        for (Constructor<?> c : TripRounds.class.getDeclaredConstructors()) {
            addSeen(got, c, "TripRounds" + parameters(c.getParameterTypes()));
        }
        for (Method m : TripRounds.class.getDeclaredMethods()) {
            addSeen(got, m, m.getReturnType() + " " + m.getName() + parameters(m.getParameterTypes()));
        }
        for (String due : DUE) {
            CHECK.same("the face has " + due, 1, got.remove(due) ? 1 : 0);
        }
        for (String more : got) {
            CHECK.tell("the face has " + more + ", which the document does not");
        }
        CHECK.same("final", 1, Modifier.isFinal(TripRounds.class.getModifiers()) ? 1 : 0);
        CHECK.end();
    }

    private static void addSeen(TreeSet<String> got, Member member, String text) {
        if (!Modifier.isPrivate(member.getModifiers()) && !member.isSynthetic()) {
            got.add(text);
            CHECK.same(text + " is public", 1, Modifier.isPublic(member.getModifiers()) ? 1 : 0);
        }
    }

    private static String parameters(Class<?>[] types) {
        String text = Arrays.toString(types).replace(" ", "");
        return "(" + text.substring(1, text.length() - 1) + ")";
    }
}
