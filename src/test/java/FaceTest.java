import java.lang.reflect.Constructor;
import java.lang.reflect.Field;
import java.lang.reflect.Method;
import java.lang.reflect.Modifier;
import java.util.Arrays;
import java.util.Set;
import java.util.TreeSet;

/** The public face is the document's, and nothing else can be seen from outside. */
public final class FaceTest {
    private static final String[] METHODS = {
        "boolean unit(int)", "int shape()", "boolean rule(int,long)", "int bar(int,int,int)",
        "boolean leg(int,int,long)", "long length(int,int)", "boolean stock(int,long,int)",
        "int run(long)", "long loss(int)", "long bound(int)", "boolean proved()",
        "int pattern(int,int)", "boolean place(int,long,long,long)", "int command(int,int)",
        "int clash(int,int)", "int lap(int,long)", "long weight(int,int)", "int tag(int,int)",
        "int differs(int,int,int)", "int order(int)",
    };

    public static void main(String[] args) {
        Check check = new Check("FaceTest");
        Class<?> face = BarCutting.class;
        check.due("final", Modifier.isFinal(face.getModifiers()), true);
        check.due("public", Modifier.isPublic(face.getModifiers()), true);
        check.due("BAD", BarCutting.BAD, -1);
        check.due("NONE", BarCutting.NONE, -2);
        check.due("methods", visibleMethods(face).equals(new TreeSet<>(Arrays.asList(METHODS))), true);
        check.due("fields", visibleFields(face).equals(Set.of("BAD", "NONE")), true);
        check.due("constructors", face.getDeclaredConstructors().length, 1);
        for (Constructor<?> made : face.getDeclaredConstructors()) {
            check.due("constructor's parameters", made.getParameterCount(), 0);
            check.due("constructor is public", Modifier.isPublic(made.getModifiers()), true);
        }
        for (Class<?> inside : face.getDeclaredClasses()) {
            check.due(inside + " is static", Modifier.isStatic(inside.getModifiers()), true);
            check.due(inside + " is public", Modifier.isPublic(inside.getModifiers()), false);
        }
        check.end();
    }

    private static Set<String> visibleMethods(Class<?> face) {
        Set<String> names = new TreeSet<>();
        for (Method method : face.getDeclaredMethods()) {
            if (!Modifier.isPrivate(method.getModifiers()) && !method.isSynthetic()) {
                StringBuilder name = new StringBuilder(method.getReturnType() + " " + method.getName() + "(");
                String between = "";
                for (Class<?> parameter : method.getParameterTypes()) {
                    name.append(between).append(parameter);
                    between = ",";
                }
                names.add(name.append(")").toString());
            }
        }
        return names;
    }

    private static Set<String> visibleFields(Class<?> face) {
        Set<String> names = new TreeSet<>();
        for (Field field : face.getDeclaredFields()) {
            if (!Modifier.isPrivate(field.getModifiers()) && !field.isSynthetic()) {
                names.add(field.getName());
            }
        }
        return names;
    }
}
