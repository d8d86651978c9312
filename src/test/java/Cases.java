import java.lang.reflect.InvocationTargetException;
import java.lang.reflect.Method;
import java.lang.reflect.Modifier;
import java.util.Arrays;
import java.util.Comparator;

/** Finds the cases of a test class by itself, so that none is written and then left out. */
final class Cases {
    private Cases() {
    }

    /** Runs every static method of the class that takes nothing and answers nothing. */
    static void runAll(Class<?> test, Due due) {
        Method[] methods = test.getDeclaredMethods();
        Arrays.sort(methods, Comparator.comparing(Method::getName));
        int count = 0;
        for (Method method : methods) {
            if (isCase(method)) {
                runOne(method, due);
                count++;
            }
        }
        System.out.println(count + " cases");
        due.end();
    }

    private static boolean isCase(Method method) {
        return Modifier.isStatic(method.getModifiers()) && !method.isSynthetic()
                && method.getParameterCount() == 0 && method.getReturnType() == void.class;
    }

    private static void runOne(Method method, Due due) {
        due.enter(method.getName());
        try {
            method.setAccessible(true);
            method.invoke(null);
        } catch (InvocationTargetException thrown) {
            due.fail("threw " + thrown.getCause());
        } catch (IllegalAccessException hidden) {
            due.fail("cannot be run: " + hidden);
        }
    }
}
