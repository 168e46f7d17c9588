import java.util.LinkedHashMap;
import java.util.Map;
import java.util.Set;

/** Tests by number, each with the words of the one sentence that it is of. */
final class Sentences {
    private record Test(String says, Runnable body) {
    }

    private final Map<String, Test> tests = new LinkedHashMap<>();

    /**
     * The number is that of the promise, or T and that of the part of the terms, then a counter;
     * says gives the sentence's words and, behind them, the case that is looked at.
     */
    void add(String number, String says, Runnable body) {
        if (tests.put(number, new Test(says, body)) != null) {
            throw new IllegalStateException("two tests of number " + number);
        }
    }

    Set<String> numbers() {
        return tests.keySet();
    }

    /** What was wrong, or null if the test holds. */
    String wrongIn(String number) {
        try {
            tests.get(number).body().run();
            return null;
        } catch (AssertionError | RuntimeException e) {
            return e + " at " + lineOf(e);
        }
    }

    private static String lineOf(Throwable e) {
        for (StackTraceElement at : e.getStackTrace()) {
            if (at.getFileName() != null && at.getFileName().endsWith("Sentences.java")) {
                return at.getFileName() + ":" + at.getLineNumber();
            }
        }
        return "an unknown line";
    }

    void end(String name) {
        int wrong = 0;
        for (Map.Entry<String, Test> test : tests.entrySet()) {
            String what = wrongIn(test.getKey());
            if (what != null) {
                wrong++;
                System.out.println(name + " " + test.getKey() + ", " + test.getValue().says() + ": " + what);
            }
        }
        System.out.println(name + ": " + tests.size() + " sentences looked at, " + wrong + " wrong");
        if (wrong > 0) {
            System.exit(1);
        }
    }
}
