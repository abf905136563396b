/** Compares answers with those that are due, prints the wrong ones and ends with 1 if there was one. */
final class Due {
    interface Call {
        int answer();
    }

    private int wrong = 0;
    private String sentence = "";

    /** What follows holds this sentence of the document. */
    void about(String words) {
        sentence = "\"" + words + "\": ";
    }

    void is(String what, int got, int want) {
        if (got != want) {
            wrong++;
            System.out.println(sentence + what + " answered " + got + ", due is " + want);
        }
    }

    void throwing(String what, Class<? extends RuntimeException> want, Call call) {
        String got;
        try {
            got = "answered " + call.answer();
        } catch (RuntimeException e) {
            if (e.getClass() == want) {
                return;
            }
            got = "threw " + e.getClass().getName();
        }
        wrong++;
        System.out.println(sentence + what + " " + got + ", due is " + want.getName());
    }

    void end() {
        if (wrong > 0) {
            System.out.println(wrong + " answers are not as due");
            System.exit(1);
        }
    }
}
