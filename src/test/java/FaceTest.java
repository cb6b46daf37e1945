import java.lang.reflect.Constructor;
import java.lang.reflect.Field;
import java.lang.reflect.Method;
import java.lang.reflect.Modifier;
import java.util.TreeSet;

/** The class has the document's face and shows nothing else. */
public final class FaceTest {
    private static final Check CHECK = new Check("FaceTest");
    private static final String[] FACE = {
        "boolean WideStack.code(int)", "void WideStack.clear()", "boolean WideStack.start(int)",
        "boolean WideStack.push(int,int,int,int)", "int WideStack.run(int)", "int WideStack.ended()",
        "int WideStack.height()", "int WideStack.part(int,int)", "int WideStack.memory(int,boolean)",
        "int WideStack.state(int)", "int WideStack.analyse()", "int WideStack.reached(int)",
        "boolean WideStack.marked(int)"
    };

    public static void main(String[] args) {
        CHECK.due("modifiers", Modifier.toString(WideStack.class.getModifiers()), "public final");
        methodsAreThoseOfTheDocument();
        theConstructorIsThatOfTheDocument();
        fieldsAreHidden(WideStack.class);
        for (Class<?> inside : WideStack.class.getDeclaredClasses()) {
            classesInsideAreHidden(inside);
        }
        CHECK.finish();
    }

    private static void methodsAreThoseOfTheDocument() {
        TreeSet<String> shown = new TreeSet<>();
        for (Method m : WideStack.class.getDeclaredMethods()) {
            if (!Modifier.isPrivate(m.getModifiers())) {
                shown.add(m.toString());
            }
        }
        TreeSet<String> due = new TreeSet<>();
        for (String one : FACE) {
            due.add("public " + one);
        }
        CHECK.due("methods", shown, due);
    }

    private static void theConstructorIsThatOfTheDocument() {
        Constructor<?>[] made = WideStack.class.getDeclaredConstructors();
        CHECK.due("constructors", made.length, 1);
        CHECK.due("constructor", made[0].toString(), "public WideStack()");
    }

    private static void fieldsAreHidden(Class<?> which) {
        for (Field f : which.getDeclaredFields()) {
            CHECK.due(f.getName() + " is private", Modifier.isPrivate(f.getModifiers()), true);
        }
    }

    private static void classesInsideAreHidden(Class<?> inside) {
        String name = inside.getSimpleName();
        int how = inside.getModifiers();
        CHECK.due(name + " is static", Modifier.isStatic(how), true);
        CHECK.due(name + " is shown", Modifier.isPublic(how) || Modifier.isProtected(how), false);
        for (Field f : inside.getDeclaredFields()) {
            boolean changes = Modifier.isStatic(f.getModifiers()) && !Modifier.isFinal(f.getModifiers());
            CHECK.due(name + "." + f.getName() + " is static and not final", changes, false);
        }
        for (Method m : inside.getDeclaredMethods()) {
            CHECK.due(name + "." + m.getName() + " has a name of the face", isOfTheFace(m.getName()), false);
        }
    }

    private static boolean isOfTheFace(String name) {
        for (String one : FACE) {
            if (one.contains("." + name + "(")) {
                return true;
            }
        }
        return false;
    }
}
