import java.io.IOException;
import java.lang.reflect.InvocationTargetException;
import java.lang.reflect.Method;
import java.nio.file.Files;
import java.nio.file.Path;
import java.util.ArrayList;
import java.util.Comparator;
import java.util.HashSet;
import java.util.List;
import java.util.Set;

/** Runs each test that bears a sentence, and looks that the document has that sentence. */
final class Sentences extends Dues {
    private Sentences() {
    }

    /** Every promise from the first to the last must have a test here. */
    static void run(Class<?> tests, int first, int last) throws IOException {
        String path = System.getProperty("shared.doc");
        String document = path == null ? "" : Files.readString(Path.of(path));
        Set<Integer> promises = new HashSet<>();
        List<Method> methods = inOrder(tests);
        for (Method method : methods) {
            Sentence sentence = method.getAnnotation(Sentence.class);
            promises.add(sentence.promise());
            about("promise " + sentence.promise() + ", \"" + sentence.says() + "\", " + method.getName());
            if (!section(document, sentence.promise()).contains(sentence.says())) {
                tellWrong("the document (-Dshared.doc) doesn't say so");
            }
            call(method);
        }
        about(tests.getName());
        for (int promise = first; promise <= last; promise++) {
            if (!promises.contains(promise)) {
                tellWrong("no test of promise " + promise);
            }
        }
        System.out.println(methods.size() + " sentences");
        end();
    }

    private static List<Method> inOrder(Class<?> tests) {
        List<Method> methods = new ArrayList<>();
        for (Method method : tests.getDeclaredMethods()) {
            if (method.isAnnotationPresent(Sentence.class)) {
                method.setAccessible(true);
                methods.add(method);
            }
        }
        methods.sort(Comparator.comparing((Method m) -> m.getAnnotation(Sentence.class).promise())
            .thenComparing(Method::getName));
        return methods;
    }

    private static void call(Method method) {
        try {
            method.invoke(null);
        } catch (InvocationTargetException thrown) {
            tellWrong("threw " + thrown.getCause());
        } catch (IllegalAccessException unreachable) {
            tellWrong("can't be called");
        }
    }

    private static String section(String document, int promise) {
        int from = promise == 0 ? 0 : document.indexOf("## Promise " + promise + ":");
        int to = document.indexOf(promise == 0 ? "## Promise 1:" : "\n## ", Math.max(0, from));
        return from < 0 || to < 0 ? "" : document.substring(from, to);
    }
}
