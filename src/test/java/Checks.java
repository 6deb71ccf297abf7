/** What the tests share: counting wrong answers, and writing a text onto an object. */
final class Checks {
    private int wrong = 0;
    private int made = 0;

    void due(String call, long got, long want) {
        made++;
        if (got != want) {
            wrong++;
            System.out.println(call + " answered " + got + ", due is " + want);
        }
    }

    void holds(String what, boolean so) {
        due(what, so ? 1 : 0, 1);
    }

    void end() {
        System.out.println(made + " answers, " + wrong + " not as due");
        if (wrong != 0 || made == 0) {
            System.exit(1);
        }
    }

    static void tell(NailThreads x, String text) {
        x.wipe();
        for (int i = 0; i < text.length(); i++) {
            x.write(text.charAt(i));
        }
    }

    static NailThreads boardOf(String text) {
        NailThreads x = new NailThreads();
        tell(x, text);
        if (x.board() < 0) {
            throw new IllegalStateException("no board: " + text);
        }
        return x;
    }
}
