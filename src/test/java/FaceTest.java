import java.io.IOException;
import java.lang.reflect.Constructor;
import java.lang.reflect.Field;
import java.lang.reflect.Member;
import java.lang.reflect.Method;
import java.lang.reflect.Modifier;
import java.nio.file.Files;
import java.nio.file.Path;
import java.util.Set;
import java.util.TreeSet;
import java.util.regex.Matcher;
import java.util.regex.Pattern;

/** The public face, and those rules of LANGUAGE.md that a look at the class tells. */
public final class FaceTest {
    private static final String SOURCE = "src/main/java/ChairCredits.java";

    private static final Set<String> FACE = Set.of(
        "int UNKNOWN", "int BAD_VALUE", "int FULL", "int NOT_POSSIBLE", "int NONE", "ChairCredits()",
        "int setLane(int,int,int)", "int set(int,int)", "int arrive(int,int)", "int readArrivals()",
        "int pass(int)", "int lose(int)", "int forge(int)", "int repair(int)", "int type(char)",
        "int clearText()", "int undo()", "int keep()", "int restore()", "int lane(int,int)",
        "int seated(int,int)", "int onTheWay(int,int)", "int input(int,int)", "int packet(int,int,int)",
        "int next(int)", "int leavesIn(int,int)", "int wouldSend(int,int)", "int count(int)");

    private FaceTest() {
    }

    public static void main(String[] args) throws IOException {
        Check.title("face");
        constants();
        members();
        classesInside();
        words(Files.readString(Path.of(SOURCE)));
        Check.end();
    }

    private static void constants() {
        Check.due("UNKNOWN", ChairCredits.UNKNOWN, -1);
        Check.due("BAD_VALUE", ChairCredits.BAD_VALUE, -2);
        Check.due("FULL", ChairCredits.FULL, -3);
        Check.due("NOT_POSSIBLE", ChairCredits.NOT_POSSIBLE, -4);
        Check.due("NONE", ChairCredits.NONE, -5);
    }

    private static void members() {
        Class<?> face = ChairCredits.class;
        Check.holds("public and final", Modifier.isPublic(face.getModifiers()) && Modifier.isFinal(face.getModifiers()));
        Set<String> open = new TreeSet<>();
        Set<String> names = new TreeSet<>();
        for (Field f : face.getDeclaredFields()) {
            note(open, f, f.getType() + " " + f.getName());
            int how = f.getModifiers();
            Check.holds(f.getName() + " is no changing static field", !Modifier.isStatic(how) || Modifier.isFinal(how));
        }
        for (Constructor<?> c : face.getDeclaredConstructors()) {
            note(open, c, "ChairCredits" + parameters(c.getParameterTypes()));
        }
        for (Method m : face.getDeclaredMethods()) {
            note(open, m, m.getReturnType() + " " + m.getName() + parameters(m.getParameterTypes()));
            Check.holds("one method " + m.getName(), Modifier.isPrivate(m.getModifiers()) || names.add(m.getName()));
        }
        for (Method m : face.getDeclaredMethods()) {
            boolean free = !Modifier.isPrivate(m.getModifiers()) || !names.contains(m.getName());
            Check.holds("no private method " + m.getName(), free);
        }
        Check.holds("the face is the document's: " + open, open.equals(FACE));
    }

    private static void note(Set<String> open, Member member, String text) {
        if (!Modifier.isPrivate(member.getModifiers())) {
            open.add(text);
        }
    }

    private static String parameters(Class<?>[] types) {
        StringBuilder text = new StringBuilder("(");
        for (Class<?> type : types) {
            text.append(text.length() > 1 ? "," : "").append(type);
        }
        return text.append(")").toString();
    }

    private static void classesInside() {
        Class<?>[] inside = ChairCredits.class.getDeclaredClasses();
        Check.holds("at most twelve classes", inside.length <= 11);
        for (Class<?> c : inside) {
            int how = c.getModifiers();
            Check.holds(c + " is static", Modifier.isStatic(how));
            Check.holds(c + " is not open", !Modifier.isPublic(how) && !Modifier.isProtected(how));
            Check.holds(c + " has at most twenty fields", c.getDeclaredFields().length <= 20);
        }
    }

    private static void words(String source) {
        Pattern no = Pattern.compile(
            "\\b(package|import|throw|throws|try|catch|finally|synchronized|assert|protected"
            + "|System\\.out|Thread|Random|currentTimeMillis|nanoTime|File|getClass|hashCode|toString)\\b|->|::");
        Matcher found = no.matcher(source);
        while (found.find()) {
            Check.holds("no '" + found.group() + "' in the source", false);
        }
        Check.holds("signs 1 to 127 alone", source.chars().allMatch(c -> c >= 1 && c <= 127));
    }
}
