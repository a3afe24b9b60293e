import java.util.Objects;
import java.util.concurrent.Callable;

/** Counts and prints the answers that are not as due; a test ends with finish. */
final class Due {
    static final Class<? extends Exception> ARGUMENT = IllegalArgumentException.class;
    static final Class<? extends Exception> STATE = IllegalStateException.class;
    static final Class<? extends Exception> INDEX = IndexOutOfBoundsException.class;
    static final Class<? extends Exception> ELEMENT = java.util.NoSuchElementException.class;

    private static int wrong;
    private static String sentence = "";

    private Due() {
    }

    /** The document's words that the next calls are about; printed with an answer that is wrong. */
    static void sentence(String words) {
        sentence = "'" + words + "': ";
    }

    static void due(String call, Object want, Callable<?> made) {
        Object got = answer(made);
        if (!Objects.equals(got, want)) {
            wrong++;
            System.out.println(sentence + call + " answered " + got + ", due is " + want);
        }
    }

    /** The answer of a call, or the class of what it throws. */
    static Object answer(Callable<?> made) {
        try {
            return made.call();
        } catch (Exception thrown) {
            return thrown.getClass();
        }
    }

    static boolean allRight() {
        return wrong == 0;
    }

    static void finish() {
        if (!allRight()) {
            System.out.println(wrong + " answers are not as due");
            System.exit(1);
        }
    }
}
