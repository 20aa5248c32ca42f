import java.lang.reflect.Constructor;
import java.lang.reflect.Field;
import java.lang.reflect.Method;
import java.lang.reflect.Modifier;
import java.util.Set;
import java.util.TreeSet;

/** The public face: what the document lists is there, and nothing else that can be seen. */
public final class FaceTest {
    private static final String[] FACE = {
        "int days(int)", "int ballot(int,int,int,long)", "int ball(int,int)", "int away(int,int)",
        "int leave(int,int,int,int,int,int)", "boolean beds(int,int)", "boolean move(int,int,int)",
        "int place(int,int,int)", "boolean look(int)", "int many(int,int,int)", "int pay(int,int,int,int)",
        "int gap(int,int,int,int)", "int off(int,int,int)", "int feed(int)", "boolean end(int)", "int fault()",
        "boolean rule()", "int claim(int,int,int,int,int,int)", "boolean name(int,int)",
        "boolean allow(int,int,boolean)", "int ask(int,int)", "int guess(int,int,int)", "int told(int,int)",
        "int count(int)"};

    public static void main(String[] args) {
        Check c = new Check("FaceTest");
        int ofClass = ScrapHouse.class.getModifiers();
        c.due("public and final", Modifier.isPublic(ofClass) && Modifier.isFinal(ofClass), true);
        c.due("NONE", ScrapHouse.NONE, -1);
        Set<String> visible = new TreeSet<>();
        Set<String> names = new TreeSet<>();
        for (Method method : ScrapHouse.class.getDeclaredMethods()) {
            if (!Modifier.isPrivate(method.getModifiers())) {
                visible.add(signature(method));
                names.add(method.getName());
            }
        }
        same(c, visible, new TreeSet<>(Set.of(FACE)));
        privateNames(c, names);
        fields(c);
        Constructor<?>[] made = ScrapHouse.class.getDeclaredConstructors();
        c.due("one constructor", made.length, 1);
        c.due("without parameters, public", made[0].getParameterCount() == 0 && Modifier.isPublic(made[0].getModifiers()),
            true);
        c.end();
    }

    private static String signature(Method method) {
        StringBuilder types = new StringBuilder();
        for (Class<?> type : method.getParameterTypes()) {
            types.append(types.length() == 0 ? "" : ",").append(type.getName());
        }
        return method.getReturnType().getName() + " " + method.getName() + "(" + types + ")";
    }

    private static void same(Check c, Set<String> visible, Set<String> face) {
        for (String one : face) {
            c.due("there is " + one, visible.contains(one), true);
        }
        for (String one : visible) {
            c.due("the document has " + one, face.contains(one), true);
        }
    }

    private static void privateNames(Check c, Set<String> names) {
        for (Method method : ScrapHouse.class.getDeclaredMethods()) {
            boolean hidden = Modifier.isPrivate(method.getModifiers());
            c.due("a private " + method.getName(), hidden && names.contains(method.getName()), false);
        }
        for (Class<?> inside : ScrapHouse.class.getDeclaredClasses()) {
            c.due("static " + inside.getName(), Modifier.isStatic(inside.getModifiers()), true);
            for (Method method : inside.getDeclaredMethods()) {
                c.due("inside, " + method.getName(), names.contains(method.getName()), false);
            }
        }
    }

    private static void fields(Check c) {
        for (Field field : ScrapHouse.class.getDeclaredFields()) {
            boolean hidden = Modifier.isPrivate(field.getModifiers());
            c.due("private " + field.getName(), hidden, !field.getName().equals("NONE"));
            c.due("static is final " + field.getName(),
                !Modifier.isStatic(field.getModifiers()) || Modifier.isFinal(field.getModifiers()), true);
        }
    }
}
