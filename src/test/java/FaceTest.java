import java.lang.reflect.Constructor;
import java.lang.reflect.Field;
import java.lang.reflect.Method;
import java.lang.reflect.Modifier;
import java.util.Set;
import java.util.TreeSet;

/** The face of the class is the document's, and no more; no method behind it bears one of its names. */
public final class FaceTest {
    private static final Set<String> FACE = Set.of(
            "class final",
            "static final int NONE",
            "FillForecast()",
            "int bin(int,int)",
            "int row(int,int,int)",
            "int emptied(int,int,int)",
            "boolean fade(int,int)",
            "boolean holiday(int,boolean)",
            "int mean(int,int)",
            "int rate(int,int)",
            "int weight(int)",
            "long expected(int,int)",
            "int wrong(int,int)",
            "boolean quiet(int)",
            "int silent(int,int)",
            "int over(int,int)",
            "boolean cost(int,int)",
            "long costOf(int,int)",
            "int day(int,int,int)",
            "long check(int,int)");

    public static void main(String[] args) {
        Set<String> found = visibleMembers();
        Due due = new Due();
        for (String member : FACE) {
            due.yes("the class has " + member, found.contains(member));
        }
        for (String member : found) {
            due.yes("the document has " + member, FACE.contains(member));
        }
        due.same("NONE", FillForecast.NONE, -1);
        for (Class<?> inside : FillForecast.class.getDeclaredClasses()) {
            int modifiers = inside.getModifiers();
            due.yes(inside.getName() + " is static", Modifier.isStatic(modifiers));
            due.no(inside.getName() + " is public or protected",
                    Modifier.isPublic(modifiers) || Modifier.isProtected(modifiers));
            lookAtNames(inside, due);
        }
        lookAtNames(FillForecast.class, due);
        due.end();
    }

    /** LANGUAGE.md, rule 1: a name of the face is borne by no other method. */
    private static void lookAtNames(Class<?> holder, Due due) {
        for (Method method : holder.getDeclaredMethods()) {
            boolean ofFace = holder == FillForecast.class && Modifier.isPublic(method.getModifiers());
            due.no(holder.getName() + "." + method.getName() + " bears a name of the face",
                    !ofFace && namesOfFace().contains(method.getName()));
        }
    }

    private static Set<String> namesOfFace() {
        Set<String> names = new TreeSet<>();
        for (Method method : FillForecast.class.getDeclaredMethods()) {
            if (Modifier.isPublic(method.getModifiers())) {
                names.add(method.getName());
            }
        }
        return names;
    }

    private static Set<String> visibleMembers() {
        Set<String> found = new TreeSet<>();
        Class<?> face = FillForecast.class;
        if (Modifier.isPublic(face.getModifiers()) && Modifier.isFinal(face.getModifiers())) {
            found.add("class final");
        }
        for (Field field : face.getDeclaredFields()) {
            if (!Modifier.isPrivate(field.getModifiers())) {
                found.add(scope(field.getModifiers()) + field.getType() + " " + field.getName());
            }
        }
        for (Constructor<?> constructor : face.getDeclaredConstructors()) {
            if (!Modifier.isPrivate(constructor.getModifiers())) {
                found.add(scope(constructor.getModifiers()) + "FillForecast" + list(constructor.getParameterTypes()));
            }
        }
        for (Method method : face.getDeclaredMethods()) {
            if (!Modifier.isPrivate(method.getModifiers())) {
                found.add(scope(method.getModifiers()) + method.getReturnType() + " " + method.getName()
                        + list(method.getParameterTypes()));
            }
        }
        return found;
    }

    private static String scope(int modifiers) {
        return Modifier.toString(modifiers & ~Modifier.PUBLIC)
                + (Modifier.isPublic(modifiers) ? "" : " hidden")
                + ((modifiers & ~Modifier.PUBLIC) == 0 && Modifier.isPublic(modifiers) ? "" : " ");
    }

    private static String list(Class<?>[] types) {
        StringBuilder text = new StringBuilder("(");
        for (int i = 0; i < types.length; i++) {
            text.append(i == 0 ? "" : ",").append(types[i]);
        }
        return text.append(")").toString();
    }
}
