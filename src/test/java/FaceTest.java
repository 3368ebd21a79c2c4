import java.lang.reflect.Constructor;
import java.lang.reflect.Field;
import java.lang.reflect.Method;
import java.lang.reflect.Modifier;
import java.util.Set;
import java.util.TreeSet;

/** The class has the document's face and no other member that can be seen from outside. */
public final class FaceTest {
    private static final String[] FACE = {
        "boolean again(int)", "int bare(int,int,int)", "int cell(int,int,int)", "int count(int)",
        "boolean creep(int)", "boolean image(int)", "boolean inner(int,int,int)", "boolean lift(int,boolean)",
        "boolean lighter(int,int)", "boolean move(int,int,int)", "boolean off(int,int,int)",
        "boolean page(int,int)", "boolean paint(int,int,boolean)", "int plate(int,int)", "void right()",
        "int safe()", "int shape(int,int,int,int,int,int,boolean)", "boolean take(int)", "int tell(int,int)",
        "int trap(int)", "boolean weight(int,int)"};

    private static int wrong = 0;

    private static void check(String what, boolean holds) {
        if (!holds) {
            wrong++;
            System.out.println("does not hold: " + what);
        }
    }

    private static String written(Method method) {
        StringBuilder text = new StringBuilder(method.getReturnType().getSimpleName());
        text.append(' ').append(method.getName()).append('(');
        for (int at = 0; at < method.getParameterCount(); at++) {
            text.append(at == 0 ? "" : ",").append(method.getParameterTypes()[at].getSimpleName());
        }
        return text.append(')').toString();
    }

    private static void checkMethods() {
        Set<String> due = new TreeSet<>(Set.of(FACE));
        Set<String> found = new TreeSet<>();
        Set<String> names = new TreeSet<>();
        for (Method method : InkOverInk.class.getDeclaredMethods()) {
            if (Modifier.isPublic(method.getModifiers())) {
                found.add(written(method));
                names.add(method.getName());
                check("not static: " + method, !Modifier.isStatic(method.getModifiers()));
            }
        }
        check("the methods " + due + ", found " + found, due.equals(found));
        for (Method method : InkOverInk.class.getDeclaredMethods()) {
            if (!Modifier.isPublic(method.getModifiers())) {
                check("private: " + method, Modifier.isPrivate(method.getModifiers()));
                check("no private method with a public name: " + method, !names.contains(method.getName()));
            }
        }
    }

    private static void checkFields() throws IllegalAccessException {
        for (Field field : InkOverInk.class.getDeclaredFields()) {
            int modifiers = field.getModifiers();
            if (field.getName().equals("NONE")) {
                check("public constant NONE", Modifier.isPublic(modifiers) && Modifier.isStatic(modifiers)
                        && Modifier.isFinal(modifiers) && field.getType() == int.class && field.getInt(null) == -1);
            } else {
                check("private: " + field, Modifier.isPrivate(modifiers));
            }
            check("static only if final: " + field, !Modifier.isStatic(modifiers) || Modifier.isFinal(modifiers));
        }
    }

    private static void checkClasses() {
        int modifiers = InkOverInk.class.getModifiers();
        check("public and final", Modifier.isPublic(modifiers) && Modifier.isFinal(modifiers));
        Constructor<?>[] makers = InkOverInk.class.getDeclaredConstructors();
        check("one public constructor without parameters", makers.length == 1
                && makers[0].getParameterCount() == 0 && Modifier.isPublic(makers[0].getModifiers()));
        for (Class<?> inside : InkOverInk.class.getDeclaredClasses()) {
            check("static: " + inside, Modifier.isStatic(inside.getModifiers()));
            check("not public: " + inside, !Modifier.isPublic(inside.getModifiers()));
            check("at most twenty fields: " + inside, inside.getDeclaredFields().length <= 20);
            checkInside(inside);
        }
    }

    private static void checkInside(Class<?> inside) {
        for (Method method : inside.getDeclaredMethods()) {
            boolean hidden = Modifier.isPrivate(method.getModifiers());
            check("no private method with a public name: " + method, !hidden || !isOfFace(method.getName()));
        }
        for (Field field : inside.getDeclaredFields()) {
            int modifiers = field.getModifiers();
            check("static only if final: " + field, !Modifier.isStatic(modifiers) || Modifier.isFinal(modifiers));
        }
    }

    private static boolean isOfFace(String name) {
        for (String line : FACE) {
            if (line.contains(" " + name + "(")) {
                return true;
            }
        }
        return false;
    }

    public static void main(String[] args) throws IllegalAccessException {
        checkMethods();
        checkFields();
        checkClasses();
        System.out.println(wrong == 0 ? "FaceTest: the face is the document's" : "FaceTest: " + wrong + " do not hold");
        if (wrong != 0) {
            System.exit(1);
        }
    }
}
