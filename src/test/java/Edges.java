import java.lang.reflect.InvocationTargetException;
import java.lang.reflect.Method;
import java.util.ArrayList;
import java.util.Comparator;
import java.util.List;

/** Runs test classes whose every test holds one sentence of the document: a static method that takes a Check. */
final class Edges {
    private Edges() {
    }

    static void run(Class<?> tests) throws ReflectiveOperationException {
        int compared = 0;
        int wrong = 0;
        List<Method> methods = testsOf(tests);
        for (Method method : methods) {
            Check check = new Check(tests.getName() + "." + method.getName());
            hold(method, check);
            compared += check.compared();
            wrong += check.wrong();
        }
        System.out.println(tests.getName() + ": " + methods.size() + " sentences, " + compared + " answers compared, " + wrong
            + " wrong");
        if (wrong > 0 || methods.isEmpty()) {
            System.exit(1);
        }
    }

    private static List<Method> testsOf(Class<?> tests) {
        List<Method> methods = new ArrayList<>();
        for (Method method : tests.getDeclaredMethods()) {
            if (method.getParameterCount() == 1 && method.getParameterTypes()[0] == Check.class) {
                methods.add(method);
            }
        }
        methods.sort(Comparator.comparing(Method::getName));
        return methods;
    }

    // A test that compares nothing holds nothing, and no call of the street may throw.
    private static void hold(Method method, Check check) throws IllegalAccessException {
        try {
            method.invoke(null, check);
        } catch (InvocationTargetException thrown) {
            check.due("what is thrown", "nothing", String.valueOf(thrown.getCause()));
        }
        if (check.compared() == 0) {
            check.due("answers compared", "some", "none");
        }
    }
}
