/** All that can be asked of an object, as one text, so that two objects can be held against each other. */
final class Picture {
    private Picture() {
    }

    static String of(NailThreads x) {
        StringBuilder s = new StringBuilder("text ").append(x.count(0)).append(" fault ").append(x.fault());
        s.append(" counts");
        for (int what = 1; what <= 7; what++) {
            s.append(' ').append(x.count(what));
        }
        for (int t = 0; t < x.count(1); t++) {
            s.append(" thread");
            for (int what = 0; what <= 5; what++) {
                s.append(' ').append(x.thread(t, what));
            }
        }
        for (int i = 0; i < x.count(2); i++) {
            s.append(" stretch");
            for (int what = 0; what <= 2; what++) {
                s.append(' ').append(x.stretch(i, what));
            }
        }
        s.append(" stars ").append(x.stars(0)).append(' ').append(x.stars(1));
        long seed = x.seed(0);
        x.seed(seed);
        return s.append(" seed ").append(seed).toString();
    }

    /** With what only shows when acts are undone and slots gone on from: the object is used up by it. */
    static String toTheEnd(NailThreads x) {
        StringBuilder s = new StringBuilder(of(x));
        for (int i = 0; i < 15 && x.undo() >= 0; i++) {
            s.append("\n  undone: ").append(of(x));
        }
        for (int slot = 0; slot < 2; slot++) {
            s.append("\n  slot ").append(slot).append(": ").append(x.again(slot)).append(' ').append(of(x));
        }
        return s.toString();
    }
}
