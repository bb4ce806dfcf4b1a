import java.lang.reflect.Constructor;
import java.lang.reflect.Field;
import java.lang.reflect.Method;
import java.lang.reflect.Modifier;
import java.util.Arrays;
import java.util.Set;
import java.util.TreeSet;

/** The public face is the document's, no more and no less (LANGUAGE.md, rules 1 and 5). */
final class FaceTest {
    private static final String[] FACE = {
        "int value(int, int)", "int gap(int)", "boolean put(int, int, int)", "int clear(int)", "int miss(int, int)",
        "int part(int)", "int at(int, int)", "int spans(int)", "int cost(int)", "int span(int, int, int)",
        "int kind(int, int)", "int turnsOf(int)", "int turn(int, int)", "int sure(int, int, int)",
        "int crossings(int, int)", "int crossing(int, int, int)", "int scale(int, int)", "int height(int, int)",
        "boolean ear(int, int)", "int worth(int, int)", "int lay(int)", "int slot(int, int)",
        "int hears(int, int, int)", "int whole(int, int, int)", "boolean walk(int, int)", "int where(int)",
        "int go(boolean)", "int seek(boolean, int)"};
    private static final Due DUE = new Due();

    public static void main(String[] args) {
        DUE.promise("the public face");
        DUE.is("the class is public", Modifier.isPublic(EarChart.class.getModifiers()), true);
        DUE.is("the class is final", Modifier.isFinal(EarChart.class.getModifiers()), true);
        methods();
        fields();
        Constructor<?>[] constructors = EarChart.class.getDeclaredConstructors();
        DUE.is("one constructor", constructors.length, 1);
        DUE.is("it is public", Modifier.isPublic(constructors[0].getModifiers()), true);
        DUE.is("it takes nothing", constructors[0].getParameterCount(), 0);
        for (Class<?> inside : EarChart.class.getDeclaredClasses()) {
            int how = inside.getModifiers();
            DUE.is(inside + " is static", Modifier.isStatic(how), true);
            DUE.is(inside + " is open", Modifier.isPublic(how) || Modifier.isProtected(how), false);
        }
        DUE.end();
    }

    private static void methods() {
        Set<String> due = new TreeSet<>(Arrays.asList(FACE));
        Set<String> publicNames = new TreeSet<>();
        for (Method method : EarChart.class.getDeclaredMethods()) {
            if (!Modifier.isPrivate(method.getModifiers())) {
                String types = Arrays.toString(method.getParameterTypes());
                String told = method.getReturnType() + " " + method.getName() + "("
                    + types.substring(1, types.length() - 1) + ")";
                DUE.is(told + " is of the face", due.remove(told), true);
                publicNames.add(method.getName());
            }
        }
        DUE.is("all are there but " + due, due.size(), 0);
        for (Method method : EarChart.class.getDeclaredMethods()) {
            if (Modifier.isPrivate(method.getModifiers())) {
                DUE.is(method + " has a public name", publicNames.contains(method.getName()), false);
            }
        }
    }

    private static void fields() {
        for (Field field : EarChart.class.getDeclaredFields()) {
            int how = field.getModifiers();
            DUE.is(field + " is private", Modifier.isPrivate(how), !field.getName().equals("NONE"));
            DUE.is(field + " is static without being final", Modifier.isStatic(how) && !Modifier.isFinal(how), false);
        }
    }
}
