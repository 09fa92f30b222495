import java.lang.reflect.Constructor;
import java.lang.reflect.Field;
import java.lang.reflect.Method;
import java.lang.reflect.Modifier;
import java.util.Set;
import java.util.TreeSet;

/** The public face: exactly the document's members, and no private method with a public one's name. */
public final class FaceTest {
    private static final String[] METHODS = {
        "void sign(int)", "int index()", "boolean on(int,boolean)", "int read(int)", "int node(int,int)",
        "int near()", "int record(long)", "int entry(int,int,int)", "int save(int)", "int run(int)",
        "int alert(int)", "int at(int)", "boolean same(int,int)", "int broken()"};

    public static void main(String[] args) throws ReflectiveOperationException {
        Class<?> face = QuerySteps.class;
        Steps.due("class is final", Modifier.isFinal(face.getModifiers()), true);
        Set<String> shown = new TreeSet<>();
        Set<String> publicNames = new TreeSet<>();
        for (Method m : face.getDeclaredMethods()) {
            if (!Modifier.isPrivate(m.getModifiers())) {
                Steps.due("public: " + m, Modifier.isPublic(m.getModifiers()), true);
                shown.add(signature(m));
                publicNames.add(m.getName());
            }
        }
        Set<String> wanted = new TreeSet<>(Set.of(METHODS));
        Steps.due("methods of the face " + shown, shown.equals(wanted), true);
        for (Method m : face.getDeclaredMethods()) {
            boolean isPrivate = Modifier.isPrivate(m.getModifiers());
            Steps.due("private " + m, isPrivate && publicNames.contains(m.getName()), false);
        }
        for (Field f : face.getDeclaredFields()) {
            boolean isShown = !Modifier.isPrivate(f.getModifiers());
            Steps.due("field " + f, isShown, f.getName().equals("NONE"));
        }
        Steps.due("NONE", face.getField("NONE").getInt(null), -1);
        Constructor<?>[] made = face.getDeclaredConstructors();
        Steps.due("constructors", made.length, 1);
        Steps.due("constructor without parameters", made[0].getParameterCount(), 0);
        Steps.due("constructor is public", Modifier.isPublic(made[0].getModifiers()), true);
        Steps.end();
    }

    private static String signature(Method m) {
        StringBuilder text = new StringBuilder(m.getReturnType().getName() + " " + m.getName() + "(");
        for (Class<?> type : m.getParameterTypes()) {
            text.append(text.charAt(text.length() - 1) == '(' ? "" : ",").append(type.getName());
        }
        return text.append(")").toString();
    }
}
