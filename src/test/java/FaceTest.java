import java.lang.reflect.Constructor;
import java.lang.reflect.Field;
import java.lang.reflect.Method;
import java.lang.reflect.Modifier;
import java.util.TreeSet;

/** The public face, and no member beside it that others could see. */
public final class FaceTest {
    private static final String[] FACE = {
        "int place(int,boolean)", "int run(boolean,int,int,int)", "int load(int,int,int,int)",
        "boolean train(int,int,int)", "boolean snow(int,int,int)", "int feed(long,long,long)", "int text()",
        "int minutes(int)", "int best(int,int,int)", "int takes()", "boolean shift(int,int)", "int look(int,int)",
        "int lies(int,int)", "int shut(int)", "int count(int)"};

    public static void main(String[] args) {
        TreeSet<String> wanted = new TreeSet<>(java.util.Arrays.asList(FACE));
        TreeSet<String> names = new TreeSet<>();
        for (Method method : PostBus.class.getDeclaredMethods()) {
            if (Modifier.isPrivate(method.getModifiers())) {
                names.add(method.getName());
                continue;
            }
            Check.yes("public " + method, Modifier.isPublic(method.getModifiers()));
            Check.yes("in the face: " + method, wanted.remove(told(method)));
        }
        Check.due("missing " + wanted, wanted.size(), 0);
        for (String face : FACE) {
            String name = face.substring(face.indexOf(' ') + 1, face.indexOf('('));
            Check.no("a private method named " + name, names.contains(name));
        }
        for (Field field : PostBus.class.getDeclaredFields()) {
            boolean open = !Modifier.isPrivate(field.getModifiers());
            Check.due("open field " + field, open ? 1 : 0, field.getName().equals("NONE") ? 1 : 0);
        }
        Constructor<?>[] constructors = PostBus.class.getDeclaredConstructors();
        Check.due("constructors", constructors.length, 1);
        Check.due("its parameters", constructors[0].getParameterCount(), 0);
        Check.yes("final", Modifier.isFinal(PostBus.class.getModifiers()));
        for (Class<?> inside : PostBus.class.getDeclaredClasses()) {
            Check.yes("static " + inside, Modifier.isStatic(inside.getModifiers()));
            Check.no("public " + inside, Modifier.isPublic(inside.getModifiers()));
        }
        Check.due("NONE", PostBus.NONE, -1);
        Check.end();
    }

    private static String told(Method method) {
        StringBuilder text = new StringBuilder(method.getReturnType() + " " + method.getName() + "(");
        for (Class<?> type : method.getParameterTypes()) {
            text.append(text.charAt(text.length() - 1) == '(' ? "" : ",").append(type);
        }
        return text.append(")").toString();
    }
}
