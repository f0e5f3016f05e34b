import java.lang.reflect.Constructor;
import java.lang.reflect.Field;
import java.lang.reflect.Method;
import java.lang.reflect.Modifier;
import java.util.ArrayList;
import java.util.Arrays;
import java.util.List;
import java.util.TreeSet;

/** The public face is the document's, whole, and nothing else can be seen from outside. */
public final class FaceTest {
    private static final String[] METHODS = {
        "feed(int,int,int,int,int)", "end(int)", "script(int,int)", "seen(int,int)", "confuse(int,int,int)",
        "chain(int,int)", "allow(int)", "name()", "fault(int)", "about(int)", "rule(int,int,int,boolean)",
        "ask(int,int)", "enter(int,int)", "strike(int)", "entry(int,int)", "far(int)", "near(int,int)",
        "nearest(int,int)", "ways(int)", "way(int,int)", "likes(int)", "like(int,int)", "count(int)",
    };

    private FaceTest() {
    }

    public static void main(String[] args) {
        Check.due("public and final", NameGuard.class.getModifiers(), Modifier.PUBLIC | Modifier.FINAL);
        constants();
        methods();
        constructors();
        classesInside();
        Check.close("FaceTest");
    }

    private static void constants() {
        Check.due("NONE", NameGuard.NONE, -1);
        Check.due("RANGE", NameGuard.RANGE, -2);
        Check.due("FULL", NameGuard.FULL, -3);
        TreeSet<String> visible = new TreeSet<>();
        for (Field field : NameGuard.class.getDeclaredFields()) {
            if (!Modifier.isPrivate(field.getModifiers())) {
                visible.add(Modifier.toString(field.getModifiers()) + " " + field.getType() + " " + field.getName());
            }
        }
        Check.dueText("fields", visible.toString(), new TreeSet<>(List.of("public static final int NONE",
            "public static final int RANGE", "public static final int FULL")).toString());
    }

    private static void methods() {
        TreeSet<String> visible = new TreeSet<>();
        TreeSet<String> publicNames = new TreeSet<>();
        List<String> otherNames = new ArrayList<>();
        for (Method method : NameGuard.class.getDeclaredMethods()) {
            if (Modifier.isPrivate(method.getModifiers())) {
                otherNames.add(method.getName());
                continue;
            }
            publicNames.add(method.getName());
            Check.due(method + " is public", method.getModifiers(), Modifier.PUBLIC);
            Check.dueText(method + " answers", method.getReturnType().toString(), "int");
            String types = Arrays.toString(Arrays.stream(method.getParameterTypes()).map(Class::getName).toArray());
            visible.add(method.getName() + types.replace("[", "(").replace("]", ")").replace(" ", ""));
        }
        Check.dueText("methods", visible.toString(), new TreeSet<>(Arrays.asList(METHODS)).toString());
        for (Class<?> inside : NameGuard.class.getDeclaredClasses()) {
            for (Method method : inside.getDeclaredMethods()) {
                otherNames.add(method.getName());
            }
        }
        for (String name : otherNames) {
            Check.due("an own method bears a public one's name: " + name, publicNames.contains(name) ? 1 : 0, 0);
        }
    }

    private static void constructors() {
        Constructor<?>[] all = NameGuard.class.getDeclaredConstructors();
        Check.due("constructors", all.length, 1);
        Check.due("public", all[0].getModifiers(), Modifier.PUBLIC);
        Check.due("without parameters", all[0].getParameterCount(), 0);
    }

    private static void classesInside() {
        Class<?>[] all = NameGuard.class.getDeclaredClasses();
        Check.due("more than twelve classes", all.length + 1 > 12 ? 1 : 0, 0);
        for (Class<?> inside : all) {
            int modifiers = inside.getModifiers();
            Check.due(inside + " is static", Modifier.isStatic(modifiers) ? 1 : 0, 1);
            Check.due(inside + " is hidden", modifiers & (Modifier.PUBLIC | Modifier.PROTECTED), 0);
        }
    }
}
