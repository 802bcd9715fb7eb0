/** What every test of the project does: compare an answer, type a text, end with an exit code. */
final class Checks {
    private int wrong = 0;
    private int asked = 0;

    void due(String what, long got, long want) {
        asked++;
        if (got != want) {
            wrong++;
            System.out.println(what + " answered " + got + ", due is " + want);
        }
    }

    void holds(String what, boolean so) {
        due(what, so ? 1 : 0, 1);
    }

    // eight bytes a call: nothing is promised of an object after its 512th call
    static void type(SkyListeners x, String text) {
        for (int i = 0; i < text.length(); i += 8) {
            int n = Math.min(8, text.length() - i);
            long v = 0;
            for (int k = 0; k < n; k++) {
                v = v << 8 | text.charAt(i + k);
            }
            x.type(v, n);
        }
    }

    static SkyListeners told(String text) {
        SkyListeners x = new SkyListeners();
        type(x, text);
        if (x.valley() < 0) {
            throw new IllegalStateException("the test's own text has a fault: " + text);
        }
        return x;
    }

    void end() {
        System.out.println(asked + " answers, " + wrong + " not as due");
        if (wrong != 0) {
            System.exit(1);
        }
    }
}
