import java.lang.reflect.InvocationTargetException;
import java.lang.reflect.Method;
import java.util.ArrayList;
import java.util.Comparator;
import java.util.List;

/** Runs the tests of a class that name a sentence. */
final class Sentences {

    private Sentences() {
    }

    static List<Method> of(Class<?> test) {
        List<Method> methods = new ArrayList<>();
        for (Method method : test.getDeclaredMethods()) {
            if (method.isAnnotationPresent(Sentence.class)) {
                methods.add(method);
            }
        }
        methods.sort(Comparator.comparing(Method::getName));
        return methods;
    }

    static void run(Class<?> test, Check check) throws IllegalAccessException {
        for (Method method : of(test)) {
            Sentence sentence = method.getAnnotation(Sentence.class);
            check.in(method.getName() + " (" + sentence.under() + ": \"" + sentence.words() + "\")");
            runOne(method, check);
        }
        check.end();
    }

    private static void runOne(Method method, Check check) throws IllegalAccessException {
        int before = check.checked();
        try {
            method.invoke(null);
        } catch (InvocationTargetException thrown) {
            check.due("a call", "a throw of " + thrown.getCause(), "an answer");
        }
        if (check.checked() == before) {
            check.due("the test's answers", 0, 1);
        }
    }
}
