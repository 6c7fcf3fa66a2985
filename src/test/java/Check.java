/** Counts and prints the answers that are not the ones that are due. */
final class Check {
    interface Call {
        long answer();
    }

    private int asked;
    private int wrong;
    private String sentence = "";

    /** A test of one sentence of the document; whatever goes wrong in it, the tests behind it are still run. */
    void sentence(String words, Runnable test) {
        int before = asked;
        sentence = "'" + words + "': ";
        try {
            test.run();
        } catch (RuntimeException e) {
            count(false, "the test was ended by " + e);
        }
        count(asked > before, "nothing was asked");
        sentence = "";
    }

    void due(String what, long got, long want) {
        count(got == want, what + " answered " + got + ", due is " + want);
    }

    void due(String what, boolean got, boolean want) {
        count(got == want, what + " answered " + got + ", due is " + want);
    }

    void due(String what, String got, String want) {
        count(got.equals(want), what + " answered " + got + ", due is " + want);
    }

    /** The very class is due, not one below it: a machine's exception is often below a promised one. */
    void dueThrow(String what, Class<? extends RuntimeException> want, Call call) {
        String got;
        try {
            got = "the answer " + call.answer();
        } catch (RuntimeException e) {
            got = e.getClass().getName();
        }
        due(what, got, want.getName());
    }

    private void count(boolean fine, String text) {
        asked++;
        if (!fine) {
            wrong++;
            System.out.println(sentence + text);
        }
    }

    boolean isClean() {
        return wrong == 0;
    }

    void end() {
        System.out.println(wrong == 0 ? asked + " answers are as due" : wrong + " answers are not as due");
        if (wrong != 0 || asked == 0) {
            System.exit(1);
        }
    }
}
