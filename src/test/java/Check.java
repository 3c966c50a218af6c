import java.util.concurrent.Callable;

/** Compares the answers of calls with those that are due; an exception answers with its name. */
final class Check {
    static final String INDEX = "IndexOutOfBoundsException";
    static final String ARGUMENT = "IllegalArgumentException";
    static final String STATE = "IllegalStateException";
    static final String REFUSED = "UnsupportedOperationException";
    static final String MISSING = "NoSuchElementException";
    static final String ARITHMETIC = "ArithmeticException";

    private static final int MOST_SHOWN = 40;

    private static int checks;
    private static int wrong;
    private static int sentences;
    private static String sentence = "";
    private static int checksBefore;

    private Check() {
    }

    /** What is checked from here on is what this sentence of the document says. */
    static void sentence(String text) {
        needChecks();
        sentence = text;
        sentences++;
        checksBefore = checks;
    }

    private static void needChecks() {
        if (sentences > 0 && checks == checksBefore) {
            wrong++;
            System.out.println("nothing is checked for: " + sentence);
        }
    }

    static String answerOf(Callable<?> call) {
        try {
            return String.valueOf(call.call());
        } catch (Exception e) {
            return e.getClass().getSimpleName();
        }
    }

    static void due(Object want, String name, Callable<?> call) {
        same(String.valueOf(want), answerOf(call), name);
    }

    static boolean same(String want, String got, String name) {
        checks++;
        if (want.equals(got)) {
            return true;
        }
        wrong++;
        if (wrong <= MOST_SHOWN) {
            String where = sentence.isEmpty() ? "" : "\"" + sentence + "\" ";
            System.out.println(where + name + " answered " + got + ", due is " + want);
        }
        return false;
    }

    static void end(String test) {
        needChecks();
        String read = sentences == 0 ? "" : sentences + " sentences, ";
        System.out.println(test + ": " + read + checks + " checks, " + wrong + " wrong");
        if (wrong > 0 || checks == 0) {
            System.exit(1);
        }
    }
}
