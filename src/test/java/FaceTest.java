import java.lang.reflect.Constructor;
import java.lang.reflect.Field;
import java.lang.reflect.Member;
import java.lang.reflect.Method;
import java.lang.reflect.Modifier;
import java.util.Set;
import java.util.TreeSet;

/** The public face: the document's, and nothing more. */
public final class FaceTest {
    private static final Set<String> FACE = Set.of(
        "int UNKNOWN", "int BAD_VALUE", "int FULL", "int NOT_POSSIBLE", "int NONE", "ChairCredits()",
        "int setLane(int,int,int)", "int set(int,int)", "int arrive(int,int)", "int readArrivals()",
        "int pass(int)", "int lose(int)", "int forge(int)", "int repair(int)", "int type(char)",
        "int clearText()", "int undo()", "int keep()", "int restore()", "int lane(int,int)",
        "int seated(int,int)", "int onTheWay(int,int)", "int input(int,int)", "int packet(int,int,int)",
        "int next(int)", "int leavesIn(int,int)", "int wouldSend(int,int)", "int count(int)");

    private FaceTest() {
    }

    public static void main(String[] args) {
        Check.title("face");
        constants();
        members();
        Check.end();
    }

    private static void constants() {
        Check.due("UNKNOWN", ChairCredits.UNKNOWN, -1);
        Check.due("BAD_VALUE", ChairCredits.BAD_VALUE, -2);
        Check.due("FULL", ChairCredits.FULL, -3);
        Check.due("NOT_POSSIBLE", ChairCredits.NOT_POSSIBLE, -4);
        Check.due("NONE", ChairCredits.NONE, -5);
    }

    private static void members() {
        Class<?> face = ChairCredits.class;
        Check.holds("public and final", face.getModifiers() == (Modifier.PUBLIC | Modifier.FINAL));
        Set<String> open = new TreeSet<>();
        for (Field f : face.getDeclaredFields()) {
            note(open, f, f.getType() + " " + f.getName());
            boolean isConstant = Modifier.isStatic(f.getModifiers()) && Modifier.isFinal(f.getModifiers());
            Check.holds(f.getName() + " is a constant", isConstant || Modifier.isPrivate(f.getModifiers()));
        }
        for (Constructor<?> c : face.getDeclaredConstructors()) {
            note(open, c, "ChairCredits" + parameters(c.getParameterTypes()));
        }
        for (Method m : face.getDeclaredMethods()) {
            note(open, m, m.getReturnType() + " " + m.getName() + parameters(m.getParameterTypes()));
        }
        Check.holds("the face is the document's: " + open, open.equals(FACE));
    }

    /** What is not private has to be public, and a method asks an object. */
    private static void note(Set<String> open, Member member, String text) {
        if (!Modifier.isPrivate(member.getModifiers())) {
            open.add(text);
            Check.holds(text + " is public", Modifier.isPublic(member.getModifiers()));
            Check.holds(text + " is no static method", !(member instanceof Method) || !Modifier.isStatic(member.getModifiers()));
        }
    }

    private static String parameters(Class<?>[] types) {
        StringBuilder text = new StringBuilder("(");
        for (Class<?> type : types) {
            text.append(text.length() > 1 ? "," : "").append(type);
        }
        return text.append(")").toString();
    }
}
