/** Counts the answers that are not the ones that are due, and ends a test with them. */
final class Checks {
    private String sentence = "";
    private int wrong = 0;

    /** The document's words that the checks from here on hold the program to: a wrong answer is printed with them. */
    void sentence(String words) {
        sentence = " (" + words + ")";
    }

    void due(String call, Object got, Object want) {
        if (!want.equals(got)) {
            wrong++;
            System.out.println(call + " answered " + got + ", due is " + want + sentence);
        }
    }

    void dueThrows(String call, Class<? extends RuntimeException> want, Runnable run) {
        Object got = "no exception";
        try {
            run.run();
        } catch (RuntimeException e) {
            got = e.getClass();
        }
        due(call, got, want);
    }

    void end() {
        System.out.println(wrong == 0 ? "all answers are as due" : wrong + " answers are not as due");
        if (wrong != 0) {
            System.exit(1);
        }
    }
}
