/** Counts and prints every answer that is not the one that is due. */
final class Checks {
    private int wrong = 0;
    private int asked = 0;
    private String sentence = "";

    /** Runs the test of one sentence of the document; what goes wrong in it is told with the sentence. */
    void sentence(String words, Runnable test) {
        sentence = "'" + words + "': ";
        int before = asked;
        try {
            test.run();
        } catch (RuntimeException e) {
            report("a call", e.toString(), "no exception there");
        }
        if (asked == before) {
            report("the test", "nothing", "an answer at least");
        }
        sentence = "";
    }

    void due(String call, long got, long want) {
        due(call, String.valueOf(got), String.valueOf(want));
    }

    void due(String call, boolean got, boolean want) {
        due(call, String.valueOf(got), String.valueOf(want));
    }

    void due(String call, String got, String want) {
        asked++;
        if (!got.equals(want)) {
            report(call, got, want);
        }
    }

    void argumentRefused(String call, Runnable run) {
        thrown(call, run, IllegalArgumentException.class);
    }

    void stateRefused(String call, Runnable run) {
        thrown(call, run, IllegalStateException.class);
    }

    void report(String call, String got, String want) {
        wrong++;
        System.out.println(sentence + call + " answered " + got + ", due is " + want);
    }

    /** Ends the program with exit code 1 if an answer was wrong. */
    void end() {
        System.out.println(wrong == 0 ? "all answers are as due" : wrong + " answers are not as due");
        if (wrong != 0) {
            System.exit(1);
        }
    }

    private void thrown(String call, Runnable run, Class<? extends RuntimeException> want) {
        String got = "nothing thrown";
        try {
            run.run();
        } catch (RuntimeException e) {
            got = e.getClass().getName();
        }
        due(call, got, want.getName());
    }
}
