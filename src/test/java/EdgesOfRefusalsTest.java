import java.io.IOException;
import java.util.function.ToIntFunction;

/** Terms, REFUSALS: which is told, that nothing is changed by it, and how fractions are told. */
public final class EdgesOfRefusalsTest {
    private static final int UNKNOWN = -1, OUTSIDE = -2, STATE = -3, FULL = -4;
    private static final int LEAST = Integer.MIN_VALUE, MOST = Integer.MAX_VALUE;

    public static void main(String[] args) throws IOException {
        Edges.run(EdgesOfRefusalsTest.class);
    }

    // ---- of several the first

    @Says(words = "of several the first that a call names")
    static void writeTellsOutsideAheadOfFull(Checks c) {
        NailThreads x = new NailThreads();
        for (int i = 0; i < 48; i++) {
            x.write('N');
        }
        c.due("beyond", x.write(256), OUTSIDE);
        c.due("below", x.write(-1), OUTSIDE);
    }

    @Says(words = "of several the first that a call names")
    static void threadTellsUnknownAheadOfOutside(Checks c) {
        c.due("thread", Checks.boardOf("NT0ag").thread(1, 6), UNKNOWN);
    }

    @Says(words = "of several the first that a call names")
    static void stretchTellsUnknownAheadOfOutside(Checks c) {
        c.due("stretch", Checks.boardOf("NT0ag").stretch(1, 6), UNKNOWN);
    }

    @Says(words = "of several the first that a call names")
    static void windTellsUnknownAheadOfState(Checks c) {
        NailThreads x = Checks.boardOf("NT3agaga");
        c.due("no nail, and 80 already", x.wind(0, 12), UNKNOWN);
        c.due("no thread", x.wind(1, 0), UNKNOWN);
    }

    @Says(words = "of several the first that a call names")
    static void nextTellsUnknownAheadOfOutside(Checks c) {
        c.due("next", Checks.boardOf("NT0ag").next(1, 2), UNKNOWN);
    }

    @Says(words = "of several the first that a call names")
    static void nextTellsOutsideAheadOfNone(Checks c) {
        c.due("next", Checks.boardOf("NT3agaga").next(0, 2), OUTSIDE);
    }

    @Says(words = "of several the first that a call names")
    static void starTellsUnknownAheadOfOutside(Checks c) {
        NailThreads x = Checks.boardOf("NT0ag");
        c.due("k", x.star(1, 0, 0, 0), UNKNOWN);
        c.due("n", x.star(1, 1, 13, 0), UNKNOWN);
        c.due("what", x.star(1, 1, 1, 3), UNKNOWN);
    }

    @Says(words = "of several the first that a call names")
    static void seeTellsUnknownAheadOfOutsideAndFull(Checks c) {
        NailThreads x = new NailThreads();
        c.due("t", x.see(13, 12, 0), UNKNOWN);
        c.due("was", x.see(0, 12, 2), UNKNOWN);
        for (int i = 0; i < 6; i++) {
            x.see(0, 0, 1);
        }
        c.due("full", x.see(0, 12, 0), UNKNOWN);
    }

    @Says(words = "of several the first that a call names")
    static void seeTellsOutsideAheadOfFull(Checks c) {
        NailThreads x = new NailThreads();
        for (int i = 0; i < 6; i++) {
            x.see(0, 0, 1);
        }
        c.due("t", x.see(13, 0, 0), OUTSIDE);
        c.due("was", x.see(0, 0, 2), OUTSIDE);
    }

    @Says(words = "of several the first that a call names")
    static void starsTellsOutsideAheadOfNone(Checks c) {
        NailThreads x = new NailThreads();
        x.see(0, 0, 1);
        x.see(0, 0, 0);
        c.due("stars", x.stars(2), OUTSIDE);
    }

    @Says(words = "of several the first that a call names")
    static void restsTellsUnknownAheadOfOutside(Checks c) {
        NailThreads x = Checks.boardOf("NT0ag");
        c.due("both are one", x.rests(1, 1, 0), UNKNOWN);
        c.due("what", x.rests(0, 1, 2), UNKNOWN);
        c.due("what, the one", x.rests(1, 0, 2), UNKNOWN);
    }

    // ---- there is no such

    @Says(words = "UNKNOWN (there is no such THREAD, NAIL (0 to 11), STRETCH, SLOT)")
    static void thereIsNoSuchThread(Checks c) {
        NailThreads x = Checks.boardOf("NT0agT0dj");
        for (int t : new int[] {LEAST, -1, 2, 3, 4, MOST}) {
            c.due("thread " + t, x.thread(t, 0), UNKNOWN);
            c.due("wind " + t, x.wind(t, 0), UNKNOWN);
            c.due("unwind " + t, x.unwind(t), UNKNOWN);
            c.due("cut " + t, x.cut(t), UNKNOWN);
            c.due("crossings " + t, x.crossings(t, 0), UNKNOWN);
            c.due("crossings, other " + t, x.crossings(0, t), UNKNOWN);
            c.due("next " + t, x.next(t, 0), UNKNOWN);
            c.due("star " + t, x.star(t, 1, 1, 0), UNKNOWN);
            c.due("share " + t, x.share(t, true), UNKNOWN);
            c.due("rests " + t, x.rests(t, 0, 0), UNKNOWN);
            c.due("rests, other " + t, x.rests(0, t, 0), UNKNOWN);
        }
        c.due("the last there is", x.thread(1, 0), 9);
    }

    @Says(words = "UNKNOWN (there is no such THREAD, NAIL (0 to 11), STRETCH, SLOT)")
    static void thereIsNoSuchNail(Checks c) {
        NailThreads x = Checks.boardOf("NT0f");
        for (int nail : new int[] {LEAST, -1, 12, MOST}) {
            c.due("wind to " + nail, x.wind(0, nail), UNKNOWN);
            c.due("see " + nail, x.see(0, nail, 0), UNKNOWN);
        }
        c.due("wind to the first", x.wind(0, 0), 0);
        c.due("wind to the last", x.wind(0, 11), 0);
        c.due("see the first", x.see(0, 0, 0), 1);
        c.due("see the last", x.see(0, 11, 0), 2);
    }

    @Says(words = "UNKNOWN (there is no such THREAD, NAIL (0 to 11), STRETCH, SLOT)")
    static void thereIsNoSuchStretch(Checks c) {
        NailThreads x = Checks.boardOf("NT0agd");
        for (int s : new int[] {LEAST, -1, 2, 48, MOST}) {
            c.due("stretch " + s, x.stretch(s, 0), UNKNOWN);
        }
        c.due("the uppermost", x.stretch(1, 0), 0);
        x.unwind(0);
        c.due("once it is unwound", x.stretch(1, 0), UNKNOWN);
    }

    @Says(words = "UNKNOWN (there is no such THREAD, NAIL (0 to 11), STRETCH, SLOT)")
    static void thereIsNoSuchSlot(Checks c) {
        NailThreads x = Checks.boardOf("NT0agd");
        for (int slot : new int[] {LEAST, -1, 2, MOST}) {
            c.due("keep " + slot, x.keep(slot), UNKNOWN);
            c.due("again " + slot, x.again(slot), UNKNOWN);
        }
        c.due("the first", x.keep(0), 2);
        c.due("the last", x.keep(1), 2);
    }

    // ---- what is refused changes nothing

    /** With acts, something kept in slot 1, something seen, a seed, and a faulty text. */
    private static NailThreads lived() {
        NailThreads x = Checks.boardOf("NT0agT1djT3agagaT0b");
        x.turn();
        x.keep(1);
        x.behind();
        x.see(1, 1, 1);
        x.seed(9);
        Checks.tell(x, "NT0aX");
        return x;
    }

    private static void refused(Checks c, String call, ToIntFunction<NailThreads> made, int answer) {
        NailThreads x = lived();
        c.due(call, made.applyAsInt(x), answer);
        c.same(call, Picture.toTheEnd(x), Picture.toTheEnd(lived()));
    }

    @Says(words = "What is refused changes nothing.")
    static void aRefusedWriteChangesNothing(Checks c) {
        refused(c, "write 256", x -> x.write(256), OUTSIDE);
        refused(c, "write -1", x -> x.write(-1), OUTSIDE);
        NailThreads full = new NailThreads();
        for (int i = 0; i < 48; i++) {
            full.write('N');
        }
        full.write('T');
        c.due("full", full.count(0), 48);
        c.due("full, wiped", full.wipe(), 48);
    }

    @Says(words = "What is refused changes nothing.")
    static void aRefusedBoardChangesNothing(Checks c) {
        refused(c, "board", NailThreads::board, STATE);
    }

    @Says(words = "What is refused changes nothing.")
    static void aRefusedWindChangesNothing(Checks c) {
        refused(c, "no thread", x -> x.wind(4, 0), UNKNOWN);
        refused(c, "no nail", x -> x.wind(0, 12), UNKNOWN);
        refused(c, "at that nail", x -> x.wind(3, x.thread(3, 0)), STATE);
        refused(c, "elastic, has 80", x -> x.wind(2, 7), STATE);
    }

    @Says(words = "What is refused changes nothing.")
    static void aRefusedUnwindChangesNothing(Checks c) {
        refused(c, "no thread", x -> x.unwind(4), UNKNOWN);
        refused(c, "has none", x -> x.unwind(3), STATE);
        refused(c, "a-g lies over d-j", x -> x.unwind(1), STATE);
    }

    @Says(words = "What is refused changes nothing.")
    static void aRefusedCutChangesNothing(Checks c) {
        refused(c, "no thread", x -> x.cut(4), UNKNOWN);
        refused(c, "has none", x -> x.cut(3), STATE);
    }

    @Says(words = "What is refused changes nothing.")
    static void aRefusedUndoChangesNothing(Checks c) {
        NailThreads x = Checks.boardOf("NT0agT1dj");
        c.due("undo", x.undo(), STATE);
        x.turn();
        c.due("the row begins anew", x.count(6), 1);
        c.due("undo that one", x.undo(), 0);
        c.same("undo", Picture.toTheEnd(x), Picture.toTheEnd(Checks.boardOf("NT0agT1dj")));
    }

    @Says(words = "What is refused changes nothing.")
    static void aRefusedSeeChangesNothing(Checks c) {
        refused(c, "no nail", x -> x.see(0, 12, 1), UNKNOWN);
        refused(c, "t", x -> x.see(13, 0, 1), OUTSIDE);
        refused(c, "was", x -> x.see(0, 0, 2), OUTSIDE);
        NailThreads full = new NailThreads();
        for (int i = 0; i < 6; i++) {
            full.see(0, 3, 1);
        }
        c.due("full", full.see(0, 4, 1), FULL);
        c.due("full, seen", full.count(7), 6);
        c.due("full, stars", full.stars(0), 11);
    }

    @Says(words = "What is refused changes nothing.")
    static void refusedYearsChangeNothing(Checks c) {
        refused(c, "none", x -> x.years(0), OUTSIDE);
        refused(c, "31", x -> x.years(31), OUTSIDE);
    }

    @Says(words = "What is refused changes nothing.")
    static void aRefusedKeepChangesNothing(Checks c) {
        refused(c, "below", x -> x.keep(-1), UNKNOWN);
        refused(c, "beyond", x -> x.keep(2), UNKNOWN);
    }

    @Says(words = "What is refused changes nothing.")
    static void aRefusedAgainChangesNothing(Checks c) {
        refused(c, "none were kept", x -> x.again(0), STATE);
        refused(c, "beyond", x -> x.again(2), UNKNOWN);
    }

    @Says(words = "What is refused changes nothing.")
    static void aRefusedLookChangesNothing(Checks c) {
        refused(c, "thread", x -> x.thread(0, 6), OUTSIDE);
        refused(c, "stretch", x -> x.stretch(0, 6), OUTSIDE);
        refused(c, "crossings", x -> x.crossings(0, 4), UNKNOWN);
        refused(c, "next", x -> x.next(0, 2), OUTSIDE);
        refused(c, "star", x -> x.star(0, 12, 1, 0), OUTSIDE);
        refused(c, "judge", x -> x.judge(1, 10000), OUTSIDE);
        refused(c, "stars", x -> x.stars(2), OUTSIDE);
        refused(c, "share", x -> x.share(4, true), UNKNOWN);
        refused(c, "rests", x -> x.rests(0, 0, 0), OUTSIDE);
        refused(c, "snaps", x -> x.snaps(100, 0, true), OUTSIDE);
        refused(c, "count", x -> x.count(8), OUTSIDE);
    }

    // ---- none, fractions

    @Says(words = "public static final int UNKNOWN = -1, OUTSIDE = -2, STATE = -3, FULL = -4, NONE = -9;")
    static void theConstants(Checks c) throws ReflectiveOperationException {
        String[] names = {"UNKNOWN", "OUTSIDE", "STATE", "FULL", "NONE"};
        int[] values = {-1, -2, -3, -4, -9};
        for (int i = 0; i < names.length; i++) {
            // Asked for by name, as a constant that is named in the code would be put in when the test is compiled.
            c.due(names[i], NailThreads.class.getField(names[i]).getInt(null), values[i]);
        }
    }

    @Says(words = "OUTSIDE (another number is not as told)")
    static void anotherNumberIsNotAsTold(Checks c) {
        NailThreads x = Checks.boardOf("NT0agT0dj");
        for (int far : new int[] {LEAST, -1, 256, MOST}) {
            c.due("write " + far, x.write(far), OUTSIDE);
            c.due("thread, what " + far, x.thread(0, far), OUTSIDE);
            c.due("stretch, what " + far, x.stretch(0, far), OUTSIDE);
            c.due("next, what " + far, x.next(0, far), OUTSIDE);
            c.due("star, k " + far, x.star(0, far, 1, 0), OUTSIDE);
            c.due("star, n " + far, x.star(0, 1, far, 0), OUTSIDE);
            c.due("star, what " + far, x.star(0, 1, 1, far), OUTSIDE);
            c.due("judge, n " + far, x.judge(far, 4000), OUTSIDE);
            c.due("see, t " + far, x.see(far, 0, 0), OUTSIDE);
            c.due("see, was " + far, x.see(0, 0, far), OUTSIDE);
            c.due("stars, what " + far, x.stars(far), OUTSIDE);
            c.due("rests, what " + far, x.rests(0, 1, far), OUTSIDE);
            c.due("snaps, v " + far, x.snaps(far, 0, true), OUTSIDE);
            c.due("snaps, x " + far, x.snaps(0, far, true), OUTSIDE);
            c.due("years, m " + far, x.years(far), OUTSIDE);
            c.due("count, what " + far, x.count(far), OUTSIDE);
        }
    }

    @Says(words = "NONE is -9.")
    static void noneIsMinusNine(Checks c) {
        c.due("no fault", Checks.faultOf("N"), -9);
        c.due("to no nail", Checks.boardOf("NT3agaga").next(0, 0), -9);
    }

    @Says(words = "FRACTIONS are told above (upper = true; below 0, if they are), below (1 and more), in least terms")
    static void nothingIsNoneByOne(Checks c) {
        NailThreads x = Checks.boardOf("NT0agT0dj");
        c.due("snaps", x.snaps(2, 5, true), 0);
        c.due("snaps, by", x.snaps(2, 5, false), 1);
        NailThreads apart = Checks.boardOf("NT0agT0b");
        c.due("share", apart.share(0, true), 0);
        c.due("share, by", apart.share(0, false), 1);
    }

    @Says(words = "FRACTIONS are told above (upper = true; below 0, if they are), below (1 and more), in least terms")
    static void theWholeIsOneByOne(Checks c) {
        NailThreads x = Checks.boardOf("NT0agdj");
        c.due("snaps", x.snaps(0, 5, true), 1);
        c.due("snaps, by", x.snaps(0, 5, false), 1);
        c.due("share", x.share(0, true), 1);
        c.due("share, by", x.share(0, false), 1);
    }

    @Says(words = "FRACTIONS are told above (upper = true; below 0, if they are), below (1 and more), in least terms")
    static void fractionsAreInLeastTerms(Checks c) {
        NailThreads x = Checks.boardOf("NT0agT0djd");
        c.due("2 by 2", x.share(0, true), 1);
        c.due("2 by 2, by", x.share(0, false), 1);
        c.due("64 by 100", x.snaps(1, 2, true), 16);
        c.due("64 by 100, by", x.snaps(1, 2, false), 25);
        c.due("49 by 100", x.snaps(1, 3, true), 49);
        c.due("49 by 100, by", x.snaps(1, 3, false), 100);
    }

    @Says(words = "refusals of them are told likewise.")
    static void refusalsOfFractionsAreToldAboveAndBelow(Checks c) {
        NailThreads x = Checks.boardOf("NT0agT0dj");
        c.due("share", x.share(2, true), UNKNOWN);
        c.due("share, by", x.share(2, false), UNKNOWN);
        c.due("snaps", x.snaps(100, 0, true), OUTSIDE);
        c.due("snaps, by", x.snaps(100, 0, false), OUTSIDE);
        c.due("x", x.snaps(0, 11, true), OUTSIDE);
        c.due("x, by", x.snaps(0, 11, false), OUTSIDE);
    }
}
