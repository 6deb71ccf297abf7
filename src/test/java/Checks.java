/** What the tests share: counting wrong answers, and writing a text onto an object. */
final class Checks {
    private final String name;
    private int wrong = 0;
    private int made = 0;

    Checks() {
        this("");
    }

    /** The name stands ahead of each wrong answer that is told. */
    Checks(String name) {
        this.name = name.isEmpty() ? "" : name + ": ";
    }

    void due(String call, long got, long want) {
        made++;
        if (got != want) {
            wrong++;
            System.out.println(name + call + " answered " + got + ", due is " + want);
        }
    }

    void same(String what, String got, String want) {
        made++;
        if (!got.equals(want)) {
            wrong++;
            System.out.println(name + what + ":\n  is     " + got + "\n  due is " + want);
        }
    }

    void holds(String what, boolean so) {
        due(what, so ? 1 : 0, 1);
    }

    int made() {
        return made;
    }

    int wrong() {
        return wrong;
    }

    void end() {
        System.out.println(made + " answers, " + wrong + " not as due");
        if (wrong != 0 || made == 0) {
            System.exit(1);
        }
    }

    static void tell(NailThreads x, String text) {
        x.wipe();
        for (int i = 0; i < text.length(); i++) {
            x.write(text.charAt(i));
        }
    }

    static NailThreads boardOf(String text) {
        NailThreads x = new NailThreads();
        tell(x, text);
        if (x.board() < 0) {
            throw new IllegalStateException("no board: " + text);
        }
        return x;
    }

    static int faultOf(String text) {
        NailThreads x = new NailThreads();
        tell(x, text);
        return x.fault();
    }

    /** Winds a thread to the one nail and to the other by turns. */
    static void windToAndFro(NailThreads x, int thread, int one, int other, int times) {
        for (int i = 0; i < times; i++) {
            x.wind(thread, i % 2 == 0 ? one : other);
        }
    }
}
