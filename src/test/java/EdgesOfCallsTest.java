import java.io.IOException;
import java.lang.reflect.Method;

/** The promises: each edge that a call's own words name in a test of its own. */
public final class EdgesOfCallsTest {
    private static final int UNKNOWN = -1, OUTSIDE = -2, STATE = -3, FULL = -4, NONE = -9;
    private static final int LEAST = Integer.MIN_VALUE, MOST = Integer.MAX_VALUE;

    public static void main(String[] args) throws IOException {
        eachPromiseIsHeld();
        Edges.run(EdgesOfCallsTest.class);
    }

    private static void eachPromiseIsHeld() {
        boolean[] held = new boolean[31];
        for (Method m : Edges.testsOf(EdgesOfCallsTest.class)) {
            held[m.getAnnotation(Says.class).promise()] = true;
        }
        for (int promise = 1; promise <= 30; promise++) {
            if (!held[promise]) {
                throw new IllegalStateException("no test of promise " + promise);
            }
        }
    }

    // ---- the board

    @Says(promise = 1, words = "No threads.")
    static void aNewObjectHasNoThreads(Checks c) {
        NailThreads x = new NailThreads();
        c.due("thread", x.thread(0, 0), UNKNOWN);
        c.due("stretch", x.stretch(0, 0), UNKNOWN);
        for (int what = 0; what <= 7; what++) {
            c.due("count " + what, x.count(what), 0);
        }
    }

    @Says(promise = 1, words = "No threads.")
    static void aNewObjectKeepsNothingAndHasNoActs(Checks c) {
        NailThreads x = new NailThreads();
        c.due("slot 0", x.again(0), STATE);
        c.due("slot 1", x.again(1), STATE);
        c.due("acts", x.undo(), STATE);
        c.due("seen", x.unsee(), 0);
        c.due("text", x.wipe(), 0);
        c.due("seed", x.seed(0), 0);
    }

    @Says(promise = 1, words = "No threads.")
    static void twoObjectsShareNothing(Checks c) {
        String alone = Picture.toTheEnd(new NailThreads());
        NailThreads x = Checks.boardOf("NT0agT1dj");
        x.turn();
        x.keep(0);
        x.see(0, 0, 1);
        x.seed(5);
        c.same("another one", Picture.toTheEnd(new NailThreads()), alone);
        c.due("its own", x.count(1), 2);
    }

    @Says(promise = 2, words = "A letter (0 to 255) comes behind THE TEXT: how long it is. OUTSIDE")
    static void theLeastLetterIs0(Checks c) {
        NailThreads x = new NailThreads();
        c.due("-1", x.write(-1), OUTSIDE);
        c.due("least", x.write(LEAST), OUTSIDE);
        c.due("0", x.write(0), 1);
    }

    @Says(promise = 2, words = "A letter (0 to 255) comes behind THE TEXT: how long it is. OUTSIDE")
    static void theHighestLetterIs255(Checks c) {
        NailThreads x = new NailThreads();
        c.due("255", x.write(255), 1);
        c.due("256", x.write(256), OUTSIDE);
        c.due("most", x.write(MOST), OUTSIDE);
        c.due("an N and 256 is not N", x.write('N' + 256), OUTSIDE);
    }

    @Says(promise = 2, words = "FULL: there are 48.")
    static void writeUntilItIsFull(Checks c) {
        NailThreads x = new NailThreads();
        for (int i = 1; i <= 48; i++) {
            c.due("letter", x.write(i), i);
        }
        c.due("the 49th", x.write(49), FULL);
        c.due("once more", x.write(0), FULL);
        x.wipe();
        c.due("wiped", x.write(49), 1);
    }

    @Says(promise = 3, words = "THE TEXT is empty: how long it was.")
    static void anEmptyTextIsWiped(Checks c) {
        NailThreads x = new NailThreads();
        c.due("empty", x.wipe(), 0);
        c.due("still", x.wipe(), 0);
        c.due("letters", x.count(0), 0);
    }

    @Says(promise = 3, words = "THE TEXT is empty: how long it was.")
    static void aFullTextIsWiped(Checks c) {
        NailThreads x = new NailThreads();
        for (int i = 0; i < 48; i++) {
            x.write('X');
        }
        c.due("full", x.wipe(), 48);
        c.due("letters", x.count(0), 0);
        c.due("the next is the first", x.write('N'), 1);
        c.due("nothing of the old", x.fault(), NONE);
    }

    @Says(promise = 3, words = "THE TEXT is empty: how long it was.")
    static void wipingLeavesTheBoard(Checks c) {
        NailThreads x = Checks.boardOf("NT0ag");
        x.wipe();
        c.due("threads", x.count(1), 1);
    }

    @Says(promise = 4, words = "FAULT; NONE.")
    static void theFaultOfAnEmptyText(Checks c) {
        c.due("empty", new NailThreads().fault(), 0);
    }

    @Says(promise = 4, words = "FAULT; NONE.")
    static void theFaultOfAFullText(Checks c) {
        NailThreads x = new NailThreads();
        for (int i = 0; i < 48; i++) {
            x.write('N');
        }
        c.due("full", x.fault(), 1);
    }

    @Says(promise = 4, words = "FAULT; NONE.")
    static void theFaultOfStrangeLetters(Checks c) {
        c.due("0", Checks.faultOf("NT0a\0"), 4);
        c.due("255", Checks.faultOf("NT0a" + (char) 255), 4);
        c.due("a blank", Checks.faultOf("N "), 1);
    }

    @Says(promise = 4, words = "FAULT; NONE.")
    static void askingForTheFaultLeavesTheBoard(Checks c) {
        NailThreads x = Checks.boardOf("NT0ag");
        Checks.tell(x, "NT0aT0b");
        c.due("none", x.fault(), NONE);
        c.due("threads", x.count(1), 1);
        c.due("told again", x.fault(), NONE);
    }

    @Says(promise = 5, words = "THE ROW of ACTS is empty")
    static void boardEmptiesTheRow(Checks c) {
        NailThreads x = Checks.boardOf("NT0ag");
        x.turn();
        x.board();
        c.due("acts", x.count(6), 0);
        c.due("none to undo", x.undo(), STATE);
    }

    @Says(promise = 5, words = "what was kept is gone")
    static void boardEmptiesBothSlots(Checks c) {
        NailThreads x = Checks.boardOf("NT0ag");
        x.keep(0);
        x.keep(1);
        x.board();
        c.due("slot 0", x.again(0), STATE);
        c.due("slot 1", x.again(1), STATE);
    }

    @Says(promise = 5, words = "SEEN, THE SEED stay")
    static void boardLeavesWhatIsSeen(Checks c) {
        NailThreads x = new NailThreads();
        x.see(0, 3, 1);
        x.write('N');
        x.board();
        c.due("seen", x.count(7), 1);
        c.due("stars", x.stars(0), 11);
    }

    @Says(promise = 5, words = "SEEN, THE SEED stay")
    static void boardLeavesTheSeed(Checks c) {
        NailThreads x = new NailThreads();
        x.seed(77);
        x.write('N');
        x.board();
        c.due("seed", x.seed(0), 77);
    }

    @Says(promise = 5, words = "how many THREADS. STATE: a FAULT.")
    static void boardTellsNoneToFour(Checks c) {
        NailThreads x = new NailThreads();
        String text = "N";
        for (int threads = 0; threads <= 4; threads++) {
            Checks.tell(x, text);
            c.due(text, x.board(), threads);
            c.due(text + ", threads", x.count(1), threads);
            text += "T0a";
        }
    }

    @Says(promise = 5, words = "how many THREADS. STATE: a FAULT.")
    static void boardIsRefusedByAFault(Checks c) {
        String[] faulty = {"", "X", "NT", "NT0", "NT0aa", "NT0aT", "NT0aT0bT0cT0dT0e"};
        for (String text : faulty) {
            NailThreads x = Checks.boardOf("NT0agT0d");
            x.turn();
            x.keep(0);
            Checks.tell(x, text);
            c.due("of " + text, x.board(), STATE);
            c.due("threads stay", x.count(1), 2);
            c.due("acts stay", x.count(6), 1);
            c.due("what was kept stays", x.again(0), 1);
        }
    }

    @Says(promise = 5, words = "THE TEXT is THE BOARD")
    static void boardLeavesNothingOfTheOld(Checks c) {
        NailThreads x = Checks.boardOf("NT1agT2djT3beT0c");
        Checks.tell(x, "NT0l");
        c.due("board", x.board(), 1);
        c.due("no thread 1", x.thread(1, 0), UNKNOWN);
        c.due("no stretch", x.count(2), 0);
        c.due("cross", x.count(3), 0);
        c.due("kind", x.thread(0, 1), 0);
        c.due("the text stays", x.count(0), 4);
    }

    private static void outside(Checks c, String call, int below, int beyond) {
        c.due(call + ", below", below, OUTSIDE);
        c.due(call + ", beyond", beyond, OUTSIDE);
    }

    private static void unknown(Checks c, String call, int below, int beyond) {
        c.due(call + ", below", below, UNKNOWN);
        c.due(call + ", beyond", beyond, UNKNOWN);
    }

    @Says(promise = 6, words = "UNKNOWN; OUTSIDE.")
    static void threadOfNoSuchThread(Checks c) {
        NailThreads x = Checks.boardOf("NT0aT0bT0cT0d");
        for (int what = 0; what <= 5; what++) {
            unknown(c, "of four, " + what, x.thread(-1, what), x.thread(4, what));
        }
        unknown(c, "of none", new NailThreads().thread(-1, 0), new NailThreads().thread(0, 0));
        c.due("the last", x.thread(3, 0), 3);
    }

    @Says(promise = 6, words = "UNKNOWN; OUTSIDE.")
    static void threadOfAnotherWhat(Checks c) {
        NailThreads x = Checks.boardOf("NT0ag");
        outside(c, "what", x.thread(0, -1), x.thread(0, 6));
        outside(c, "what, far", x.thread(0, LEAST), x.thread(0, MOST));
    }

    @Says(promise = 6, words = "how many STRETCHES it has (2), how LONG they are together (3)")
    static void threadWithoutStretches(Checks c) {
        NailThreads x = Checks.boardOf("NT0l");
        c.due("nail", x.thread(0, 0), 11);
        c.due("stretches", x.thread(0, 2), 0);
        c.due("length", x.thread(0, 3), 0);
    }

    @Says(promise = 6, words = "NAILS to which it may be WOUND (4: bits)")
    static void threadMayToNoneToAllButItsNail(Checks c) {
        c.due("all but a", Checks.boardOf("NT0a").thread(0, 4), 4094);
        c.due("all but l", Checks.boardOf("NT0l").thread(0, 4), 2047);
        c.due("none", Checks.boardOf("NT3agaga").thread(0, 4), 0);
    }

    @Says(promise = 6, words = "1 if it can be UNWOUND (5)")
    static void threadCanBeUnwoundOrNot(Checks c) {
        NailThreads x = Checks.boardOf("NT0agT0djT0b");
        c.due("held", x.thread(0, 5), 0);
        c.due("free", x.thread(1, 5), 1);
        c.due("has none", x.thread(2, 5), 0);
    }

    @Says(promise = 7, words = "UNKNOWN; OUTSIDE.")
    static void stretchOfNoSuchStretch(Checks c) {
        NailThreads x = Checks.boardOf("NT0agd");
        for (int what = 0; what <= 5; what++) {
            unknown(c, "of two, " + what, x.stretch(-1, what), x.stretch(2, what));
        }
        unknown(c, "of none", Checks.boardOf("NT0a").stretch(-1, 0), Checks.boardOf("NT0a").stretch(0, 0));
    }

    @Says(promise = 7, words = "UNKNOWN; OUTSIDE.")
    static void stretchOfAnotherWhat(Checks c) {
        NailThreads x = Checks.boardOf("NT0ag");
        outside(c, "what", x.stretch(0, -1), x.stretch(0, 6));
        outside(c, "what, far", x.stretch(0, LEAST), x.stretch(0, MOST));
    }

    @Says(promise = 7, words = "how many CROSS it (3), how many of these lie over it (4), ABOVE (5)")
    static void stretchThatNothingCrosses(Checks c) {
        NailThreads x = Checks.boardOf("NT0abT0ab");
        for (int what = 3; what <= 5; what++) {
            c.due("what " + what, x.stretch(0, what), 0);
        }
    }

    @Says(promise = 7, words = "how many CROSS it (3), how many of these lie over it (4), ABOVE (5)")
    static void stretchInTheMidst(Checks c) {
        NailThreads x = Checks.boardOf("NT0agT0djT0bh");
        c.due("cross it", x.stretch(1, 3), 2);
        c.due("lie over it", x.stretch(1, 4), 1);
        c.due("the undermost: cross it", x.stretch(0, 3), 2);
        c.due("the undermost: lie over it", x.stretch(0, 4), 2);
        c.due("the uppermost: lie over it", x.stretch(2, 4), 0);
    }

    // ---- acts

    @Says(promise = 8, words = "WOUND: how many STRETCHES its new one CROSSES.")
    static void windCrossesNoneToAll(Checks c) {
        NailThreads x = Checks.boardOf("NT0agagagagaT0djdjdjdjdT0a");
        c.due("none", x.wind(2, 3), 0);
        c.due("those between a and g", x.wind(2, 9), 8);
        c.due("d-j is not crossed by its like", x.wind(2, 3), 8);
        c.due("b: none of a-g, of d-j, of its own", x.wind(2, 1), 0);
        c.due("b-i: all of both, its own a-d, and its own two of d-j", x.wind(2, 8), 8 + 8 + 1 + 2);
    }

    @Says(promise = 8, words = "UNKNOWN: both")
    static void windOfNoSuchThreadOrNail(Checks c) {
        NailThreads x = Checks.boardOf("NT0aT0d");
        unknown(c, "thread", x.wind(-1, 5), x.wind(2, 5));
        unknown(c, "nail", x.wind(0, -1), x.wind(0, 12));
        unknown(c, "both", x.wind(LEAST, LEAST), x.wind(MOST, MOST));
        c.due("no act", x.count(6), 0);
    }

    @Says(promise = 8, words = "STATE: it is at that NAIL, or may not.")
    static void windToWhereItIs(Checks c) {
        NailThreads x = Checks.boardOf("NT0ag");
        c.due("at g", x.wind(0, 6), STATE);
        c.due("no act", x.count(6), 0);
        c.due("no stretch", x.count(2), 1);
    }

    @Says(promise = 8, words = "STATE: it is at that NAIL, or may not.")
    static void windWhereItMayNot(Checks c) {
        c.due("stiff beside", Checks.boardOf("NT1a").wind(0, 11), STATE);
        c.due("gut over itself", Checks.boardOf("NT2agd").wind(0, 9), STATE);
        c.due("elastic beside", Checks.boardOf("NT3a").wind(0, 1), STATE);
        c.due("elastic too far", Checks.boardOf("NT3agaga").wind(0, 2), STATE);
        NailThreads x = Checks.boardOf("NT0ababababa");
        Checks.windToAndFro(x, 0, 1, 0, 4);
        c.due("plain with 12", x.wind(0, 1), STATE);
    }

    @Says(promise = 9, words = "UNKNOWN; STATE: it has none, or one lies over its last.")
    static void unwindOfNoSuchThread(Checks c) {
        NailThreads x = Checks.boardOf("NT0agT0b");
        unknown(c, "of two", x.unwind(-1), x.unwind(2));
        unknown(c, "far", x.unwind(LEAST), x.unwind(MOST));
    }

    @Says(promise = 9, words = "STATE: it has none, or one lies over its last.")
    static void unwindOfOneThatHasNone(Checks c) {
        NailThreads x = Checks.boardOf("NT0ab");
        c.due("the only one", x.unwind(0), 0);
        c.due("none", x.unwind(0), STATE);
        c.due("one act", x.count(6), 1);
    }

    @Says(promise = 9, words = "STATE: it has none, or one lies over its last.")
    static void unwindOfOneThatIsHeld(Checks c) {
        NailThreads x = Checks.boardOf("NT0agT0dj");
        c.due("held", x.unwind(0), STATE);
        c.due("no act", x.count(6), 0);
        x.unwind(1);
        c.due("free", x.unwind(0), 0);
    }

    @Says(promise = 9, words = "STATE: it has none, or one lies over its last.")
    static void unwindLooksOnlyAtTheLast(Checks c) {
        NailThreads x = Checks.boardOf("NT0agbT0dj");
        c.due("d-j over g-b too", x.unwind(0), STATE);
        NailThreads y = Checks.boardOf("NT0aghT0di");
        c.due("d-i over a-g, not over g-h", y.unwind(0), 6);
        c.due("now a-g is the last", y.unwind(0), STATE);
    }

    @Says(promise = 10, words = "CUT: how many STRETCHES are gone. UNKNOWN; STATE: it has none.")
    static void cutOfNoSuchThread(Checks c) {
        NailThreads x = Checks.boardOf("NT0agT0b");
        unknown(c, "of two", x.cut(-1), x.cut(2));
        unknown(c, "far", x.cut(LEAST), x.cut(MOST));
    }

    @Says(promise = 10, words = "CUT: how many STRETCHES are gone. UNKNOWN; STATE: it has none.")
    static void cutOfOneThatHasNone(Checks c) {
        NailThreads x = Checks.boardOf("NT0abT0c");
        c.due("tied alone", x.cut(1), STATE);
        c.due("one", x.cut(0), 1);
        c.due("has none", x.thread(0, 2), 0);
        c.due("cut already", x.cut(0), STATE);
        c.due("one act", x.count(6), 1);
    }

    @Says(promise = 10, words = "CUT: how many STRETCHES are gone. UNKNOWN; STATE: it has none.")
    static void cutOfTheUndermostAmongOthers(Checks c) {
        NailThreads x = Checks.boardOf("NT0agT0djT0bh");
        x.wind(0, 11);
        c.due("the first and the last", x.cut(0), 2);
        c.due("left", x.count(2), 2);
        c.due("d-j undermost", x.stretch(0, 0), 1);
        c.due("b-h uppermost", x.stretch(1, 0), 2);
        c.due("these cross", x.count(3), 1);
    }

    @Says(promise = 11, words = "TURNED: how many STRETCHES there are.")
    static void turnOfAnEmptyBoard(Checks c) {
        NailThreads x = new NailThreads();
        c.due("no threads", x.turn(), 0);
        c.due("an act all the same", x.count(6), 1);
        c.due("tied alone", Checks.boardOf("NT0aT0b").turn(), 0);
    }

    @Says(promise = 12, words = "BEHIND: how many STRETCHES there are.")
    static void behindOfAnEmptyBoard(Checks c) {
        NailThreads x = new NailThreads();
        c.due("no threads", x.behind(), 0);
        c.due("an act all the same", x.count(6), 1);
        c.due("tied alone", Checks.boardOf("NT0aT0b").behind(), 0);
    }

    private static NailThreads full() {
        NailThreads x = Checks.boardOf("NT0aT0dT0aT0d");
        for (int t = 0; t < 4; t++) {
            Checks.windToAndFro(x, t, t % 2 == 0 ? 6 : 9, t % 2 == 0 ? 0 : 3, 12);
        }
        return x;
    }

    @Says(promise = 11, words = "TURNED: how many STRETCHES there are.")
    static void turnOfAFullBoard(Checks c) {
        NailThreads x = full();
        c.due("full", x.turn(), 48);
        c.due("the uppermost: d is e", x.stretch(47, 2), 4);
    }

    @Says(promise = 12, words = "BEHIND: how many STRETCHES there are.")
    static void behindOfAFullBoard(Checks c) {
        NailThreads x = full();
        c.due("full", x.behind(), 48);
        c.due("the uppermost is the first", x.stretch(47, 0), 0);
        c.due("the undermost is the last", x.stretch(0, 0), 3);
        c.due("its d is j", x.stretch(0, 2), 9);
    }

    @Says(promise = 13, words = "The last ACT is undone: how many are left. STATE: there is none.")
    static void undoOfNone(Checks c) {
        c.due("a new object", new NailThreads().undo(), STATE);
        c.due("a new board", Checks.boardOf("NT0ag").undo(), STATE);
        NailThreads x = Checks.boardOf("NT0ag");
        x.turn();
        c.due("the only one", x.undo(), 0);
        c.due("undoing is no act", x.undo(), STATE);
    }

    @Says(promise = 13, words = "The last ACT is undone: how many are left. STATE: there is none.")
    static void undoOfTheLastAlone(Checks c) {
        NailThreads x = Checks.boardOf("NT0a");
        x.wind(0, 6);
        x.turn();
        c.due("turn", x.undo(), 1);
        c.due("still wound", x.thread(0, 0), 6);
        c.due("wind", x.undo(), 0);
        c.due("tied", x.thread(0, 0), 0);
    }

    @Says(promise = 13, words = "The last ACT is undone: how many are left. STATE: there is none.")
    static void undoOnAFullRowGoesOn(Checks c) {
        NailThreads x = Checks.boardOf("NT0a");
        for (int i = 0; i < 20; i++) {
            x.turn();
        }
        c.due("of 14", x.undo(), 13);
        x.behind();
        c.due("again 14", x.count(6), 14);
        c.due("behind undone", x.undo(), 13);
        c.due("at nail 19 less 12", x.thread(0, 0), 7);
        for (int i = 0; i < 13; i++) {
            x.undo();
        }
        c.due("the first six are forgotten", x.thread(0, 0), 6);
        c.due("none", x.undo(), STATE);
    }

    @Says(promise = 13, words = "The last ACT is undone: how many are left. STATE: there is none.")
    static void refusedCallsAndLooksAreNoActs(Checks c) {
        NailThreads x = Checks.boardOf("NT0agT1d");
        x.wind(0, 6);
        x.wind(1, 4);
        x.unwind(1);
        x.cut(1);
        x.star(0, 5, 3, 0);
        x.judge(1, 4000);
        x.years(30);
        x.keep(0);
        c.due("none", x.undo(), STATE);
    }

    // ---- looks

    @Says(promise = 14, words = "(of one with itself: each two once)")
    static void crossingsOfOneWithItself(Checks c) {
        c.due("two", Checks.boardOf("NT0agdj").crossings(0, 0), 1);
        c.due("none", Checks.boardOf("NT0ag").crossings(0, 0), 0);
        c.due("has none", Checks.boardOf("NT0a").crossings(0, 0), 0);
        NailThreads x = Checks.boardOf("NT0agb");
        x.behind();
        x.wind(0, 3);
        c.due("l-d next over a-g", x.crossings(0, 0), 1);
    }

    @Says(promise = 14, words = "How many times STRETCHES of two THREADS CROSS")
    static void crossingsOfTwo(Checks c) {
        NailThreads x = full();
        c.due("each of twelve with each of twelve", x.crossings(0, 1), 144);
        c.due("the other way", x.crossings(3, 0), 144);
        c.due("none", x.crossings(0, 2), 0);
    }

    @Says(promise = 14, words = "UNKNOWN: both.")
    static void crossingsOfNoSuchThread(Checks c) {
        NailThreads x = Checks.boardOf("NT0agT0dj");
        unknown(c, "the one", x.crossings(-1, 0), x.crossings(2, 0));
        unknown(c, "the other", x.crossings(0, -1), x.crossings(0, 2));
        unknown(c, "one and itself", x.crossings(-1, -1), x.crossings(2, 2));
    }

    @Says(promise = 15, words = "PARTS.")
    static void partsOfAnEmptyBoard(Checks c) {
        c.due("no threads", new NailThreads().parts(), 1);
        NailThreads x = Checks.boardOf("NT0ag");
        c.due("ahead of a cut", x.parts(), 2);
        x.cut(0);
        c.due("cut", x.parts(), 1);
    }

    @Says(promise = 15, words = "PARTS.")
    static void partsOfAFullBoard(Checks c) {
        c.due("full, of two lines", full().parts(), 4);
    }

    @Says(promise = 16, words = "STROKES.")
    static void strokesOfAnEmptyBoard(Checks c) {
        c.due("no threads", new NailThreads().strokes(), 0);
        NailThreads x = Checks.boardOf("NT0ag");
        c.due("ahead of a cut", x.strokes(), 1);
        x.cut(0);
        c.due("cut", x.strokes(), 0);
    }

    @Says(promise = 16, words = "STROKES.")
    static void strokesOfAFullBoard(Checks c) {
        c.due("full, of two lines", full().strokes(), 2);
    }

    @Says(promise = 17, words = "NONE. UNKNOWN; OUTSIDE: what.")
    static void nextOfOneThatMayToNone(Checks c) {
        NailThreads x = full();
        c.due("which", x.next(0, 0), NONE);
        c.due("how many", x.next(0, 1), NONE);
    }

    @Says(promise = 17, words = "NONE. UNKNOWN; OUTSIDE: what.")
    static void nextOfNoSuchThread(Checks c) {
        NailThreads x = Checks.boardOf("NT0ag");
        unknown(c, "of one", x.next(-1, 0), x.next(1, 0));
    }

    @Says(promise = 17, words = "NONE. UNKNOWN; OUTSIDE: what.")
    static void nextOfAnotherWhat(Checks c) {
        NailThreads x = Checks.boardOf("NT0ag");
        outside(c, "what", x.next(0, -1), x.next(0, 2));
        outside(c, "what, far", x.next(0, LEAST), x.next(0, MOST));
    }

    @Says(promise = 18, words = "UNKNOWN; OUTSIDE: k, n, what.")
    static void starOfNoSuchThread(Checks c) {
        NailThreads x = Checks.boardOf("NT0ag");
        unknown(c, "of one", x.star(-1, 1, 1, 0), x.star(1, 1, 1, 0));
    }

    @Says(promise = 18, words = "UNKNOWN; OUTSIDE: k, n, what.")
    static void starByAnotherK(Checks c) {
        NailThreads x = Checks.boardOf("NT0a");
        outside(c, "k", x.star(0, 0, 1, 0), x.star(0, 12, 1, 0));
        outside(c, "k, far", x.star(0, LEAST, 1, 0), x.star(0, MOST, 1, 0));
        c.due("1", x.star(0, 1, 1, 0), 1);
        c.due("11", x.star(0, 11, 1, 0), 1);
    }

    @Says(promise = 18, words = "UNKNOWN; OUTSIDE: k, n, what.")
    static void starOfAnotherN(Checks c) {
        NailThreads x = Checks.boardOf("NT0a");
        outside(c, "n", x.star(0, 1, -1, 0), x.star(0, 1, 13, 0));
        outside(c, "n, far", x.star(0, 1, LEAST, 0), x.star(0, 1, MOST, 0));
        c.due("0", x.star(0, 1, 0, 0), 0);
        c.due("12", x.star(0, 1, 12, 0), 12);
    }

    @Says(promise = 18, words = "UNKNOWN; OUTSIDE: k, n, what.")
    static void starOfAnotherWhat(Checks c) {
        NailThreads x = Checks.boardOf("NT0a");
        outside(c, "what", x.star(0, 1, 1, -1), x.star(0, 1, 1, 3));
        outside(c, "what, far", x.star(0, 1, 1, LEAST), x.star(0, 1, 1, MOST));
    }

    @Says(promise = 19, words = "OUTSIDE: n, row (0 or more, 4 n figures at most).")
    static void judgeOfAnotherN(Checks c) {
        NailThreads x = Checks.boardOf("NT0a");
        outside(c, "n", x.judge(0, 0), x.judge(5, 4000400040004000L));
        outside(c, "n, small row", x.judge(0, 4000), x.judge(5, 4000));
        outside(c, "n, far", x.judge(LEAST, 4000), x.judge(MOST, 4000));
    }

    @Says(promise = 19, words = "OUTSIDE: n, row (0 or more, 4 n figures at most).")
    static void judgeOfARowBelow0(Checks c) {
        NailThreads x = Checks.boardOf("NT0a");
        c.due("-1", x.judge(1, -1), OUTSIDE);
        c.due("-4000", x.judge(1, -4000), OUTSIDE);
        c.due("least", x.judge(4, Long.MIN_VALUE), OUTSIDE);
        c.due("0 is one", x.judge(1, 0), 0);
    }

    @Says(promise = 19, words = "OUTSIDE: n, row (0 or more, 4 n figures at most).")
    static void judgeOfARowTooLong(Checks c) {
        NailThreads x = Checks.boardOf("NT0a");
        long beyond = 10000;
        long turns = 4000;
        for (int n = 1; n <= 4; n++) {
            c.due("figures beyond " + 4 * n, x.judge(n, beyond), OUTSIDE);
            c.due("all nines, " + 4 * n, x.judge(n, beyond - 1), 0);
            c.due("figures just " + 4 * n, x.judge(n, turns), NONE);
            beyond *= 10000;
            turns = 10000 * turns + 4000;
        }
        c.due("most", x.judge(4, Long.MAX_VALUE), OUTSIDE);
    }

    @Says(promise = 19, words = "JUDGED; NONE.")
    static void judgeBeginsAtTheBoardEachTime(Checks c) {
        NailThreads x = Checks.boardOf("NT0agT0d");
        c.due("cut", x.judge(1, 3000), NONE);
        c.due("still there to cut", x.judge(1, 3000), NONE);
        c.due("stretches", x.count(2), 1);
        c.due("acts", x.count(6), 0);
    }

    // ---- seen

    @Says(promise = 20, words = "SEEN: how many there are. UNKNOWN: nail")
    static void seeOfNoSuchNail(Checks c) {
        NailThreads x = new NailThreads();
        unknown(c, "nail", x.see(0, -1, 0), x.see(0, 12, 0));
        unknown(c, "nail, far", x.see(0, LEAST, 0), x.see(0, MOST, 0));
        c.due("0", x.see(0, 0, 0), 1);
        c.due("11", x.see(0, 11, 0), 2);
    }

    @Says(promise = 20, words = "OUTSIDE: t, was (0, 1)")
    static void seeOfAnotherT(Checks c) {
        NailThreads x = new NailThreads();
        outside(c, "t", x.see(-1, 0, 0), x.see(13, 0, 0));
        outside(c, "t, far", x.see(LEAST, 0, 0), x.see(MOST, 0, 0));
        c.due("0", x.see(0, 0, 0), 1);
        c.due("12", x.see(12, 0, 0), 2);
    }

    @Says(promise = 20, words = "OUTSIDE: t, was (0, 1)")
    static void seeOfAnotherWas(Checks c) {
        NailThreads x = new NailThreads();
        outside(c, "was", x.see(0, 0, -1), x.see(0, 0, 2));
        outside(c, "was, far", x.see(0, 0, LEAST), x.see(0, 0, MOST));
        c.due("0", x.see(0, 0, 0), 1);
        c.due("1", x.see(0, 1, 1), 2);
    }

    @Says(promise = 20, words = "FULL: 6.")
    static void seeUntilItIsFull(Checks c) {
        NailThreads x = new NailThreads();
        for (int i = 1; i <= 6; i++) {
            c.due("see", x.see(12, 11, 1), i);
        }
        c.due("the 7th", x.see(12, 11, 1), FULL);
        c.due("seen", x.count(7), 6);
        x.unsee();
        c.due("when nothing is seen", x.see(12, 11, 1), 1);
    }

    @Says(promise = 21, words = "Nothing is SEEN: how much there was.")
    static void unseeOfNothingAndOfAll(Checks c) {
        NailThreads x = new NailThreads();
        c.due("nothing", x.unsee(), 0);
        for (int i = 0; i < 6; i++) {
            x.see(0, i, 0);
        }
        c.due("six", x.unsee(), 6);
        c.due("nothing again", x.unsee(), 0);
        c.due("seen", x.count(7), 0);
        c.due("stars", x.stars(0), 132);
    }

    @Says(promise = 22, words = "STARS: how many (what = 0), the first (1); NONE. OUTSIDE.")
    static void starsOfAnotherWhat(Checks c) {
        NailThreads x = new NailThreads();
        outside(c, "what", x.stars(-1), x.stars(2));
        outside(c, "what, far", x.stars(LEAST), x.stars(MOST));
    }

    @Says(promise = 22, words = "STARS: how many (what = 0), the first (1); NONE. OUTSIDE.")
    static void starsOfWhichNoneIsLeft(Checks c) {
        NailThreads x = new NailThreads();
        x.see(12, 0, 1);
        x.see(0, 0, 0);
        c.due("how many", x.stars(0), 0);
        c.due("the first", x.stars(1), NONE);
    }

    // ---- shares, rests, chances

    @Says(promise = 23, words = "SHARE. UNKNOWN.")
    static void shareOfNoSuchThread(Checks c) {
        NailThreads x = Checks.boardOf("NT0agT0dj");
        unknown(c, "above", x.share(-1, true), x.share(2, true));
        unknown(c, "below", x.share(-1, false), x.share(2, false));
        unknown(c, "far", x.share(LEAST, true), x.share(MOST, false));
    }

    @Says(promise = 24, words = "UNKNOWN: both; OUTSIDE: both are one, what.")
    static void restsOfNoSuchThread(Checks c) {
        NailThreads x = Checks.boardOf("NT0agT0dj");
        unknown(c, "the one", x.rests(-1, 0, 0), x.rests(2, 0, 0));
        unknown(c, "the other", x.rests(0, -1, 0), x.rests(0, 2, 0));
    }

    @Says(promise = 24, words = "UNKNOWN: both; OUTSIDE: both are one, what.")
    static void restsOfOneWithItself(Checks c) {
        NailThreads x = Checks.boardOf("NT0agT0dj");
        c.due("the first", x.rests(0, 0, 0), OUTSIDE);
        c.due("the last", x.rests(1, 1, 1), OUTSIDE);
    }

    @Says(promise = 24, words = "UNKNOWN: both; OUTSIDE: both are one, what.")
    static void restsOfAnotherWhat(Checks c) {
        NailThreads x = Checks.boardOf("NT0agT0dj");
        outside(c, "what", x.rests(0, 1, -1), x.rests(0, 1, 2));
        outside(c, "what, far", x.rests(0, 1, LEAST), x.rests(0, 1, MOST));
    }

    @Says(promise = 25, words = "SNAPS. OUTSIDE: v, x.")
    static void snapsOfAnotherV(Checks c) {
        NailThreads x = Checks.boardOf("NT0agT0dj");
        outside(c, "v", x.snaps(-1, 5, true), x.snaps(100, 5, true));
        outside(c, "v, far", x.snaps(LEAST, 5, false), x.snaps(MOST, 5, false));
        c.due("0", x.snaps(0, 5, true), 1);
        c.due("99", x.snaps(99, 5, true), 0);
    }

    @Says(promise = 25, words = "SNAPS. OUTSIDE: v, x.")
    static void snapsByAnotherX(Checks c) {
        NailThreads x = Checks.boardOf("NT0agT0dj");
        outside(c, "x", x.snaps(1, -1, true), x.snaps(1, 11, true));
        outside(c, "x, far", x.snaps(1, LEAST, false), x.snaps(1, MOST, false));
        c.due("0", x.snaps(1, 0, true), 1);
        c.due("10", x.snaps(1, 10, true), 0);
    }

    @Says(promise = 26, words = "THE SEED is v: what it was.")
    static void seedOfTheLeastAndTheMost(Checks c) {
        NailThreads x = new NailThreads();
        c.due("at first", x.seed(Long.MIN_VALUE), 0);
        c.due("least", x.seed(Long.MAX_VALUE), Long.MIN_VALUE);
        c.due("most", x.seed(-1), Long.MAX_VALUE);
        c.due("-1", x.seed(0), -1);
        c.due("0", x.seed(0), 0);
    }

    @Says(promise = 27, words = "YEARS. OUTSIDE: m.")
    static void yearsOfAnotherM(Checks c) {
        NailThreads x = Checks.boardOf("NT0ag");
        x.seed(7);
        outside(c, "m", x.years(0), x.years(31));
        outside(c, "m, far", x.years(LEAST), x.years(MOST));
        c.due("-1", x.years(-1), OUTSIDE);
        c.due("the seed stays", x.seed(7), 7);
        c.holds("1", x.years(1) >= 0);
        c.holds("30", x.years(30) >= 0);
    }

    // ---- slots, count

    @Says(promise = 28, words = "They are kept: how many STRETCHES. UNKNOWN.")
    static void keepInNoSuchSlot(Checks c) {
        NailThreads x = Checks.boardOf("NT0ag");
        unknown(c, "slot", x.keep(-1), x.keep(2));
        unknown(c, "slot, far", x.keep(LEAST), x.keep(MOST));
    }

    @Says(promise = 28, words = "They are kept: how many STRETCHES. UNKNOWN.")
    static void keepOfNoneAndOfAFullBoard(Checks c) {
        NailThreads x = new NailThreads();
        c.due("none", x.keep(0), 0);
        NailThreads y = full();
        c.due("full", y.keep(1), 48);
        y.cut(3);
        c.due("full again", y.again(1), 48);
        c.due("the uppermost", y.stretch(47, 0), 3);
    }

    @Says(promise = 28, words = "They are kept: how many STRETCHES. UNKNOWN.")
    static void keepOverWhatWasKept(Checks c) {
        NailThreads x = Checks.boardOf("NT0agd");
        x.keep(0);
        x.cut(0);
        c.due("none", x.keep(0), 0);
        x.wind(0, 5);
        c.due("the newer", x.again(0), 0);
    }

    @Says(promise = 29, words = "UNKNOWN; STATE: none were kept.")
    static void againFromNoSuchSlot(Checks c) {
        NailThreads x = Checks.boardOf("NT0ag");
        x.keep(0);
        x.keep(1);
        unknown(c, "slot", x.again(-1), x.again(2));
        unknown(c, "slot, far", x.again(LEAST), x.again(MOST));
    }

    @Says(promise = 29, words = "UNKNOWN; STATE: none were kept.")
    static void againFromAnEmptySlot(Checks c) {
        NailThreads x = Checks.boardOf("NT0ag");
        x.turn();
        c.due("0", x.again(0), STATE);
        c.due("1", x.again(1), STATE);
        c.due("the row stays", x.count(6), 1);
        x.keep(1);
        c.due("the other one still", x.again(0), STATE);
        c.due("this one", x.again(1), 1);
    }

    @Says(promise = 29, words = "They are as they were kept: how many STRETCHES.")
    static void againAsOftenAsOneLikes(Checks c) {
        NailThreads x = Checks.boardOf("NT0agT0dj");
        x.keep(0);
        for (int i = 0; i < 3; i++) {
            x.cut(i % 2);
            x.turn();
            c.due("stretches", x.again(0), 2);
            c.due("nail", x.thread(0, 0), 6);
            c.due("cross", x.count(3), 1);
        }
    }

    @Says(promise = 29, words = "They are as they were kept: how many STRETCHES.")
    static void againOfABoardWithoutThreads(Checks c) {
        NailThreads x = new NailThreads();
        x.keep(0);
        c.due("none", x.again(0), 0);
        c.due("none again", x.again(0), 0);
    }

    @Says(promise = 30, words = "7 SEEN. OUTSIDE.")
    static void countOfAnotherWhat(Checks c) {
        NailThreads x = Checks.boardOf("NT0ag");
        outside(c, "what", x.count(-1), x.count(8));
        outside(c, "what, far", x.count(LEAST), x.count(MOST));
    }

    @Says(promise = 30, words = "4 NAILS at which any STRETCH ends (bits)")
    static void countOfNailsAtTheEndsOfTheRing(Checks c) {
        c.due("none", Checks.boardOf("NT0aT0l").count(4), 0);
        c.due("a and l", Checks.boardOf("NT0alT0g").count(4), 2049);
        NailThreads x = Checks.boardOf("NT0a");
        for (int i = 1; i <= 12; i++) {
            x.wind(0, i % 12);
        }
        c.due("all", x.count(4), 4095);
    }

    @Says(promise = 30, words = "3 how many times STRETCHES CROSS (each two once)")
    static void countOfCrossingsThroughAllActs(Checks c) {
        NailThreads x = full();
        c.due("full", x.count(3), 576);
        c.due("length", x.count(5), 48 * 20);
        x.behind();
        c.due("behind", x.count(3), 576);
        c.due("the last of thread 0 is uppermost of its own", x.unwind(0), 6);
        c.due("unwound", x.count(3), 552);
        x.cut(1);
        c.due("cut: 23 by 12", x.count(3), 276);
        x.undo();
        x.undo();
        c.due("undone", x.count(3), 576);
    }

    @Says(promise = 30, words = "5 how LONG all are together")
    static void countOfLengthOfNoneAndOfAll(Checks c) {
        c.due("none", Checks.boardOf("NT0aT0b").count(5), 0);
        c.due("of two threads", Checks.boardOf("NT0abT3ag").count(5), 25);
        c.due("of a full board", full().count(5), 48 * 20);
    }

    @Says(promise = 30, words = "6 ACTS in the row")
    static void countOfActsUpTo14(Checks c) {
        NailThreads x = Checks.boardOf("NT0a");
        for (int i = 1; i <= 16; i++) {
            x.turn();
            c.due("acts", x.count(6), Math.min(i, 14));
        }
    }

    @Says(promise = 30, words = "0 letters of THE TEXT, 1 THREADS, 2 STRETCHES")
    static void countOfAllThatIsFull(Checks c) {
        NailThreads x = full();
        for (int i = 0; i < 48; i++) {
            x.write('X');
        }
        c.due("letters", x.count(0), 48);
        c.due("threads", x.count(1), 4);
        c.due("stretches", x.count(2), 48);
    }
}
