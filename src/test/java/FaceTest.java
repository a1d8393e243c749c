import java.lang.reflect.Constructor;
import java.lang.reflect.Field;
import java.lang.reflect.Method;
import java.lang.reflect.Modifier;
import java.util.Set;
import java.util.TreeSet;

/** The public face, and rule 1 of LANGUAGE.md. */
public final class FaceTest {
    public static void main(String[] args) {
        Check check = new Check("FaceTest");
        Set<String> methods = new TreeSet<>();
        Set<String> hidden = new TreeSet<>();
        for (Method method : PlanDesk.class.getDeclaredMethods()) {
            if (Modifier.isPrivate(method.getModifiers())) {
                hidden.add(method.getName());
            } else {
                methods.add(method.toString());
            }
        }
        Set<String> due = new TreeSet<>(Set.of(
                "public boolean PlanDesk.type(long,int)",
                "public int PlanDesk.program() throws java.lang.IllegalArgumentException",
                "public int PlanDesk.fault(int)",
                "public int PlanDesk.predicates()",
                "public int PlanDesk.predicate(int,int)",
                "public boolean PlanDesk.hangs(int,int)",
                "public int PlanDesk.rule(int,int) throws java.util.NoSuchElementException",
                "public int PlanDesk.literal(int,int,int) throws java.util.NoSuchElementException"));
        check.due("the methods " + methods, true, due.equals(methods));
        for (Method method : PlanDesk.class.getMethods()) {
            check.due("hidden " + method.getName(), false, hidden.contains(method.getName()));
        }
        for (Field field : PlanDesk.class.getDeclaredFields()) {
            boolean open = !Modifier.isPrivate(field.getModifiers());
            check.due("open field " + field, field.getName().equals("NONE"), open);
        }
        Constructor<?>[] constructors = PlanDesk.class.getDeclaredConstructors();
        check.due("constructors", 1, constructors.length);
        check.due("constructor", true, constructors[0].toString().equals("public PlanDesk()"));
        check.due("final", true, Modifier.isFinal(PlanDesk.class.getModifiers()));
        for (Class<?> inside : PlanDesk.class.getDeclaredClasses()) {
            int modifiers = inside.getModifiers();
            check.due("inside " + inside, true,
                    Modifier.isStatic(modifiers) && !Modifier.isPublic(modifiers));
        }
        check.end();
    }
}
