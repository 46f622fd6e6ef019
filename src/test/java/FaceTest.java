import java.lang.reflect.Field;
import java.lang.reflect.Member;
import java.lang.reflect.Method;
import java.lang.reflect.Modifier;
import java.util.Arrays;
import java.util.List;
import java.util.TreeSet;

/** The document's public face, and rule 1 of LANGUAGE.md. */
public final class FaceTest {
    private static final Check CHECK = new Check();
    private static final String METHODS = "size/2 turn/3 turned/2 made/3 look/5 peak/1 flank/1 worst/1 best/2 pair/2"
            + " filter/1 weight/2 own/1 answer/3 greatest/1 clear/1 rests/1 rest/2 read/2 fold/1 unfold/3 unfolded/4"
            + " common/0 blind/2 put/1 empty/0 found/5 count/4 share/4:long scale/3 told/1 digest/0:long";

    public static void main(String[] args) {
        constants();
        members();
        methods();
        classesInside();
        CHECK.end();
    }

    private static void constants() {
        CHECK.due("NONE", PulseSigns.NONE, -1);
        CHECK.due("UNKNOWN", PulseSigns.UNKNOWN, -101);
        CHECK.due("OUTSIDE", PulseSigns.OUTSIDE, -102);
        CHECK.due("STATE", PulseSigns.STATE, -103);
        CHECK.due("FULL", PulseSigns.FULL, -104);
    }

    private static void members() {
        List<String> known = List.of("NONE", "UNKNOWN", "OUTSIDE", "STATE", "FULL");
        for (Field field : PulseSigns.class.getDeclaredFields()) {
            boolean constant = known.contains(field.getName());
            CHECK.holds("field " + field.getName(), isHidden(field) != constant);
            boolean isStatic = Modifier.isStatic(field.getModifiers());
            CHECK.holds("static means final: " + field, !isStatic || Modifier.isFinal(field.getModifiers()));
        }
        CHECK.holds("public and final", Modifier.isPublic(PulseSigns.class.getModifiers())
                && Modifier.isFinal(PulseSigns.class.getModifiers()));
        CHECK.due("constructors", PulseSigns.class.getDeclaredConstructors().length, 1);
    }

    private static void methods() {
        TreeSet<String> open = new TreeSet<>();
        TreeSet<String> names = new TreeSet<>();
        for (Method method : PulseSigns.class.getDeclaredMethods()) {
            if (!isHidden(method)) {
                CHECK.holds("public: " + method, Modifier.isPublic(method.getModifiers()));
                open.add(written(method));
                names.add(method.getName());
            }
        }
        CHECK.holds("the face is " + open, open.equals(new TreeSet<>(Arrays.asList(METHODS.split(" ")))));
        for (Method method : PulseSigns.class.getDeclaredMethods()) {
            CHECK.holds("a name twice: " + method, !isHidden(method) || !names.contains(method.getName()));
        }
        for (Class<?> inside : PulseSigns.class.getDeclaredClasses()) {
            for (Method method : inside.getDeclaredMethods()) {
                CHECK.holds("a name twice: " + method, !names.contains(method.getName()));
            }
        }
    }

    private static String written(Method method) {
        for (Class<?> type : method.getParameterTypes()) {
            CHECK.holds("int parameters: " + method, type == int.class);
        }
        String text = method.getName() + "/" + method.getParameterCount();
        return method.getReturnType() == int.class ? text : text + ":" + method.getReturnType();
    }

    private static void classesInside() {
        for (Class<?> inside : PulseSigns.class.getDeclaredClasses()) {
            int how = inside.getModifiers();
            CHECK.holds("static and not public: " + inside,
                    Modifier.isStatic(how) && !Modifier.isPublic(how) && !Modifier.isProtected(how));
        }
    }

    private static boolean isHidden(Member member) {
        return Modifier.isPrivate(member.getModifiers());
    }
}
