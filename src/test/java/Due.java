/** Counts the answers of one test that are not as due. */
final class Due {
    private static final int SHOWN = 40;

    private int asked;
    private int wrong;

    void is(String call, long got, long want) {
        asked++;
        if (got == want) {
            return;
        }
        wrong++;
        if (wrong <= SHOWN) {
            System.out.println(call + " answered " + got + ", due is " + want);
        }
    }

    void holds(String what, boolean so) {
        is(what, so ? 1 : 0, 1);
    }

    /** Types a text letter by letter and reads it. */
    static int read(RiddlePrison prison, String text) {
        for (int k = 0; k < text.length(); k++) {
            prison.type(text.charAt(k));
        }
        return prison.read();
    }

    static RiddlePrison prison(String text) {
        RiddlePrison made = new RiddlePrison();
        if (read(made, text) < 0) {
            throw new IllegalArgumentException(text);
        }
        return made;
    }

    void end() {
        System.out.println(asked + " answers, " + wrong + " not as due");
        if (wrong != 0 || asked == 0) {
            System.exit(1);
        }
    }
}
