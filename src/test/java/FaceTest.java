import java.lang.reflect.Constructor;
import java.lang.reflect.Field;
import java.lang.reflect.Method;
import java.lang.reflect.Modifier;
import java.util.TreeSet;

/** The class has the document's face and shows nothing else. */
public final class FaceTest {
    public static void main(String[] args) {
        Check check = new Check("FaceTest");
        check.due("modifiers", Modifier.toString(WideStack.class.getModifiers()), "public final");
        TreeSet<String> shown = new TreeSet<>();
        for (Method m : WideStack.class.getDeclaredMethods()) {
            if (!Modifier.isPrivate(m.getModifiers())) {
                shown.add(m.toString());
            }
        }
        TreeSet<String> due = new TreeSet<>();
        String[] face = {
            "boolean WideStack.code(int)", "void WideStack.clear()", "boolean WideStack.start(int)",
            "boolean WideStack.push(int,int,int,int)", "int WideStack.run(int)", "int WideStack.ended()",
            "int WideStack.height()", "int WideStack.part(int,int)", "int WideStack.memory(int,boolean)",
            "int WideStack.state(int)", "int WideStack.analyse()", "int WideStack.reached(int)",
            "boolean WideStack.marked(int)"
        };
        for (String one : face) {
            due.add("public " + one);
        }
        check.due("methods", shown, due);
        for (Field f : WideStack.class.getDeclaredFields()) {
            check.due(f.getName() + " is private", Modifier.isPrivate(f.getModifiers()), true);
        }
        Constructor<?>[] made = WideStack.class.getDeclaredConstructors();
        check.due("constructors", made.length, 1);
        check.due("constructor", made[0].toString(), "public WideStack()");
        check.finish();
    }
}
