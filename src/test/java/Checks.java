/** Counts and prints every answer that is not the one that is due. */
final class Checks {
    private int wrong = 0;

    void due(String call, long got, long want) {
        if (got != want) {
            report(call, String.valueOf(got), String.valueOf(want));
        }
    }

    void due(String call, boolean got, boolean want) {
        if (got != want) {
            report(call, String.valueOf(got), String.valueOf(want));
        }
    }

    void argumentRefused(String call, Runnable run) {
        thrown(call, run, IllegalArgumentException.class);
    }

    void stateRefused(String call, Runnable run) {
        thrown(call, run, IllegalStateException.class);
    }

    void report(String call, String got, String want) {
        wrong++;
        System.out.println(call + " answered " + got + ", due is " + want);
    }

    /** Ends the program with exit code 1 if an answer was wrong. */
    void end() {
        System.out.println(wrong == 0 ? "all answers are as due" : wrong + " answers are not as due");
        if (wrong != 0) {
            System.exit(1);
        }
    }

    private void thrown(String call, Runnable run, Class<? extends RuntimeException> want) {
        String got = "nothing thrown";
        try {
            run.run();
        } catch (RuntimeException e) {
            if (e.getClass() == want) {
                return;
            }
            got = e.getClass().getName();
        }
        report(call, got, want.getName());
    }
}
