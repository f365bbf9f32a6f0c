/** Compares answers with those that are due, and tells which are not so. */
final class Due {
    private final String test;
    private int asked;
    private int wrong;

    Due(String test) {
        this.test = test;
    }

    void is(String call, long want, long got) {
        asked++;
        if (got != want) {
            wrong++;
            System.out.println(test + ": " + call + " answered " + got + ", due is " + want);
        }
    }

    /** To be called last: a test with a wrong answer ends with exit code 1. */
    void end() {
        System.out.println(test + ": " + asked + " answers, " + wrong + " not as due");
        if (wrong != 0) {
            System.exit(1);
        }
    }

    static int tell(DoorsOneSide x, String text) {
        for (int i = 0; i < text.length(); i++) {
            x.letter(text.charAt(i));
        }
        return x.town();
    }

    /** A new object with a town that must be without fault. */
    static DoorsOneSide of(String text) {
        DoorsOneSide x = new DoorsOneSide();
        int statements = tell(x, text);
        if (statements < 1) {
            throw new IllegalStateException(text + " has the fault " + statements);
        }
        return x;
    }
}
