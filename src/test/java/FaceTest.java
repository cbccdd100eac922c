import java.lang.reflect.Constructor;
import java.lang.reflect.Field;
import java.lang.reflect.Method;
import java.lang.reflect.Modifier;
import java.util.Set;
import java.util.TreeSet;

/** The public face: just the constructor and the methods that the document names. */
public final class FaceTest {
    public static void main(String[] args) {
        Set<String> due = Set.of("boolean put int int", "boolean reset int", "int run int", "int stop int", "int keys int",
            "int cell int", "int cpu int", "int timer int", "int video int", "int pixel int int", "long picture",
            "int count int", "boolean save int", "boolean load int");
        Set<String> open = new TreeSet<>();
        for (Method method : PocketConsole.class.getDeclaredMethods()) {
            if (!Modifier.isPrivate(method.getModifiers())) {
                StringBuilder text = new StringBuilder(method.getReturnType() + " " + method.getName());
                for (Class<?> type : method.getParameterTypes()) {
                    text.append(' ').append(type);
                }
                open.add(text.toString());
                Checks.due(text + " is public", Modifier.isPublic(method.getModifiers()), true);
                Checks.due(text + " is static", Modifier.isStatic(method.getModifiers()), false);
            }
        }
        Checks.due("the methods are " + open, open.equals(due), true);
        for (Field field : PocketConsole.class.getDeclaredFields()) {
            Checks.due(field.getName() + " is private", Modifier.isPrivate(field.getModifiers()), true);
        }
        Constructor<?>[] constructors = PocketConsole.class.getDeclaredConstructors();
        Checks.due("constructors", constructors.length, 1);
        Checks.due("its arguments", constructors[0].getParameterCount(), 0);
        Checks.due("it is public", Modifier.isPublic(constructors[0].getModifiers()), true);
        Checks.due("the class is public", Modifier.isPublic(PocketConsole.class.getModifiers()), true);
        Checks.due("the class is final", Modifier.isFinal(PocketConsole.class.getModifiers()), true);
        Checks.due("nested classes", PocketConsole.class.getDeclaredClasses().length, 0);
        Checks.end();
    }
}
