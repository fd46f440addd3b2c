import java.lang.reflect.Constructor;
import java.lang.reflect.Field;
import java.lang.reflect.Method;
import java.lang.reflect.Modifier;
import java.util.Arrays;
import java.util.TreeSet;

/** The public face: its constants, constructor and methods, and no others; rule 1 of the language. */
public final class FaceTest {
    private static final String CONSTANT = "public static final int ";
    private static final String[] FACE = {
        "int at(int)", "int compare(int)", "int explain(int,int)", "int item(int,int,int,int,int)",
        "int least(int,int,long)", "int print()", "int read()", "int service(int,int)",
        "long dimensional(long,long) throws java.lang.ArithmeticException", "long price(int,int,long)",
        "void sign(int)"};

    public static void main(String[] args) {
        Check check = new Check("FaceTest");
        check.due("NONE", PostTariff.NONE, -1);
        check.due("UNKNOWN", PostTariff.UNKNOWN, -1000001);
        check.due("OUTSIDE", PostTariff.OUTSIDE, -1000002);
        check.due("STATE", PostTariff.STATE, -1000003);
        check.due("ROOM", PostTariff.ROOM, -1000004);
        check.due("public and final", PostTariff.class.getModifiers() & (Modifier.PUBLIC | Modifier.FINAL),
                Modifier.PUBLIC | Modifier.FINAL);
        TreeSet<String> methods = new TreeSet<>();
        TreeSet<String> names = new TreeSet<>();
        for (Method method : PostTariff.class.getMethods()) {
            if (method.getDeclaringClass() == PostTariff.class) {
                methods.add(method.toGenericString().replace("public ", "").replace("PostTariff.", ""));
                names.add(method.getName());
            }
        }
        check.due("methods", methods.toString(), new TreeSet<>(Arrays.asList(FACE)).toString());
        TreeSet<String> fields = new TreeSet<>();
        for (Field field : PostTariff.class.getFields()) {
            fields.add(field.toGenericString().replace("PostTariff.", ""));
        }
        check.due("constants", fields.toString(), "[" + CONSTANT + "NONE, " + CONSTANT + "OUTSIDE, " + CONSTANT + "ROOM, "
                + CONSTANT + "STATE, " + CONSTANT + "UNKNOWN]");
        check.due("constructors", Arrays.toString(PostTariff.class.getConstructors()), "[public PostTariff()]");
        check.due("a class of no other", PostTariff.class.getSuperclass().getName(), "java.lang.Object");
        check.due("interfaces", PostTariff.class.getInterfaces().length, 0);
        check.due("package", PostTariff.class.getPackageName(), "");
        checkHidden(check, names);
        check.end();
    }

    private static void checkHidden(Check check, TreeSet<String> publicNames) {
        for (Constructor<?> constructor : PostTariff.class.getDeclaredConstructors()) {
            check.due("constructor's parameters", constructor.getParameterCount(), 0);
        }
        for (Method method : PostTariff.class.getDeclaredMethods()) {
            if (!Modifier.isPublic(method.getModifiers())) {
                check.due(method + " is private", Modifier.isPrivate(method.getModifiers()) ? 1 : 0, 1);
                check.due(method + " bears a public name", publicNames.contains(method.getName()) ? 1 : 0, 0);
            }
        }
        for (Field field : PostTariff.class.getDeclaredFields()) {
            if (!Modifier.isPublic(field.getModifiers())) {
                check.due(field + " is private", Modifier.isPrivate(field.getModifiers()) ? 1 : 0, 1);
            }
        }
        for (Class<?> inside : PostTariff.class.getDeclaredClasses()) {
            check.due(inside + " is static", Modifier.isStatic(inside.getModifiers()) ? 1 : 0, 1);
            check.due(inside + " is public", Modifier.isPublic(inside.getModifiers()) ? 1 : 0, 0);
            for (Method method : inside.getDeclaredMethods()) {
                check.due(method + " bears a public name", publicNames.contains(method.getName()) ? 1 : 0, 0);
            }
        }
    }
}
