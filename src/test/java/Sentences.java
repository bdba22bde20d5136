import java.io.IOException;
import java.lang.reflect.InvocationTargetException;
import java.lang.reflect.Method;
import java.nio.file.Files;
import java.nio.file.Path;

/** Runs the tests of a class that stand for a sentence of the document each. */
final class Sentences {
    private static final Path DOCUMENT = Path.of("../shared/DOC.md");

    private Sentences() {
    }

    // A sentence that was changed is told, and no fault: its test wants to be looked at again.
    static void run(Class<?> tests) throws IOException, IllegalAccessException {
        Check check = new Check();
        String document = Files.exists(DOCUMENT) ? plain(Files.readString(DOCUMENT)) : null;
        int found = 0;
        for (Method test : tests.getDeclaredMethods()) {
            Sentence sentence = test.getAnnotation(Sentence.class);
            if (sentence != null) {
                found++;
                check.about(test.getName() + " (" + sentence.value() + "): ");
                runOne(test, check);
                if (document != null && !document.contains(plain(sentence.value()))) {
                    System.out.println("note: the document says no more: " + sentence.value());
                }
            }
        }
        check.about("");
        check.yes(tests + " has tests", found > 0);
        check.end();
    }

    private static void runOne(Method test, Check check) throws IllegalAccessException {
        try {
            test.invoke(null, check);
        } catch (InvocationTargetException e) {
            check.text("ends", "by " + e.getCause(), "by itself");
        }
    }

    private static String plain(String text) {
        return text.replaceAll("\\s+", " ");
    }
}
