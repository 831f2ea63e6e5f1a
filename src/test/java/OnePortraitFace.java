import java.lang.reflect.Constructor;
import java.lang.reflect.Field;
import java.lang.reflect.Method;
import java.lang.reflect.Modifier;
import java.util.Arrays;
import java.util.Set;
import java.util.TreeSet;

// The public face is the document's, and nothing else of the class is public, protected or package-visible.
public final class OnePortraitFace {
    private static final String[] FACE = {
        "int feed(int)", "int street()", "int widowOf(int,int)", "int wears(int,int)", "int seen(int)", "int rota(int)",
        "int widow(int,int,int,int)", "int puts(int,int)", "int mends(int,int)", "int grieves(int,int)", "int weeks(int)",
        "int back()", "int then(int,int)", "int widowIn(int,int,int)", "int gone(int)", "int dayMet(int)", "int like()",
        "int turn(int,int)", "int swap(int)", "int leave(int)", "int mend(int)", "int lasts(int)", "int carry(int)",
        "int bestRota(int)", "int whoHad(int)", "int whatKind(int,int,int)", "int two(int,int,int)",
        "long gales(int,int,int,int,int)", "int worst(int)", "long mean(int)", "int face(int)", "int next(int)",
        "int gap(int)", "int eased(int,int)", "int sundays(int)", "int kept()", "int row(int)", "int judge()",
        "int clear()", "int lots(int,int,int)", "int image()", "int restore()", "int count(int)"};
    private static int wrong = 0;

    private static void due(String what, Object got, Object want) {
        if (!got.equals(want)) {
            wrong++;
            System.out.println(what + " is " + got + ", due is " + want);
        }
    }

    private static String told(Method method) {
        StringBuilder text = new StringBuilder(method.getReturnType().getName());
        text.append(' ').append(method.getName()).append('(');
        Class<?>[] types = method.getParameterTypes();
        for (int i = 0; i < types.length; i++) {
            text.append(i == 0 ? "" : ",").append(types[i].getName());
        }
        return text.append(')').toString();
    }

    public static void main(String[] args) {
        Set<String> open = new TreeSet<>();
        Set<String> openNames = new TreeSet<>();
        for (Method method : OnePortrait.class.getDeclaredMethods()) {
            if (!Modifier.isPrivate(method.getModifiers())) {
                open.add(told(method));
                openNames.add(method.getName());
                due("public " + method.getName(), Modifier.isPublic(method.getModifiers()), true);
            }
        }
        due("the face", open, new TreeSet<>(Arrays.asList(FACE)));
        for (Method method : OnePortrait.class.getDeclaredMethods()) {
            if (Modifier.isPrivate(method.getModifiers())) {
                due("private " + method.getName() + " named as a public one", openNames.contains(method.getName()), false);
            }
        }
        for (Field field : OnePortrait.class.getDeclaredFields()) {
            due("private " + field.getName(), Modifier.isPrivate(field.getModifiers()), true);
        }
        Constructor<?>[] constructors = OnePortrait.class.getDeclaredConstructors();
        due("constructors", constructors.length, 1);
        due("public constructor", Modifier.isPublic(constructors[0].getModifiers()), true);
        due("its parameters", constructors[0].getParameterCount(), 0);
        due("final", Modifier.isFinal(OnePortrait.class.getModifiers()), true);
        for (Class<?> inside : OnePortrait.class.getDeclaredClasses()) {
            due("static " + inside.getName(), Modifier.isStatic(inside.getModifiers()), true);
            due("public " + inside.getName(), Modifier.isPublic(inside.getModifiers()), false);
        }
        System.out.println(wrong == 0 ? "the face is as due" : wrong + " things of the face are not as due");
        if (wrong != 0) {
            System.exit(1);
        }
    }
}
