import java.io.IOException;

/** Terms, the first part: an edge of nails, of the text, of winding and of the other acts in each test. */
public final class EdgesOfBoardTest {
    private static final int UNKNOWN = -1, STATE = -3, FULL = -4, NONE = -9;
    /** 45 letters: four threads, nine nails each; the elastic one is LONG by 80. */
    private static final String LONGEST = "NT0ababababaT1acacacacaT2ababababaT3acegikace";
    private static final int ALL_NAILS = 4095;

    public static void main(String[] args) throws IOException {
        Edges.run(EdgesOfBoardTest.class);
    }

    // ---- calls, nails, stretches

    @Says(words = "An object is used for at most 512 calls after it has been made")
    static void the512thCallAnswers(Checks c) {
        NailThreads x = new NailThreads();
        for (char letter : "NT0ag".toCharArray()) {
            x.write(letter);
        }
        x.board();
        for (int i = 0; i < 504; i++) {
            x.turn();
        }
        c.due("call 511, 42 times round", x.thread(0, 0), 6);
        c.due("call 512", x.undo(), 13);
    }

    @Says(words = "NAILS are 0 to 11 in a ring, told by letters a to l.")
    static void theFirstNailIsToldByA(Checks c) {
        c.due("ahead of a", Checks.faultOf("NT0`"), 3);
        c.due("a", Checks.boardOf("NT0a").thread(0, 0), 0);
        c.due("A", Checks.faultOf("NT0A"), 3);
    }

    @Says(words = "NAILS are 0 to 11 in a ring, told by letters a to l.")
    static void theLastNailIsToldByL(Checks c) {
        c.due("l", Checks.boardOf("NT0l").thread(0, 0), 11);
        c.due("m", Checks.faultOf("NT0m"), 3);
    }

    @Says(words = "Two are APART by as many steps as the shorter way round has (1 to 6)")
    static void theLastAndTheFirstNailAreApartByOne(Checks c) {
        c.due("a to l", Checks.boardOf("NT0al").thread(0, 3), 5);
        c.due("l to a", Checks.boardOf("NT0la").thread(0, 3), 5);
        c.due("l to b", Checks.boardOf("NT0lb").thread(0, 3), 10);
    }

    @Says(words = "Two are APART by as many steps as the shorter way round has (1 to 6)")
    static void noTwoAreApartByMoreThanSix(Checks c) {
        c.due("a to g", Checks.boardOf("NT0ag").thread(0, 3), 20);
        c.due("a to h is 5 the other way", Checks.boardOf("NT0ah").thread(0, 3), 19);
        c.due("h to a", Checks.boardOf("NT0ha").thread(0, 3), 19);
    }

    @Says(words = "a STRETCH between two is LONG by 5, 10, 14, 17, 19, 20, as they are APART by 1, 2, .. 6.")
    static void eachDistanceHasItsLength(Checks c) {
        int[] lengths = {5, 10, 14, 17, 19, 20, 19, 17, 14, 10, 5};
        for (int on = 1; on <= 11; on++) {
            for (int from = 0; from <= 11; from++) {
                String text = "NT0" + (char) ('a' + from) + (char) ('a' + (from + on) % 12);
                c.due(text, Checks.boardOf(text).thread(0, 3), lengths[on - 1]);
            }
        }
    }

    private static int crossingsOn(String text) {
        return Checks.boardOf(text).count(3);
    }

    @Says(words = "if of the four NAILS, all unlike, going round")
    static void anEndInCommonDoesNotCross(Checks c) {
        c.due("a-g g-d", crossingsOn("NT0agT0gd"), 0);
        c.due("a-g d-g", crossingsOn("NT0agT0dg"), 0);
        c.due("a-g a-d", crossingsOn("NT0agT0ad"), 0);
        c.due("a-g j-a", crossingsOn("NT0agT0ja"), 0);
    }

    @Says(words = "if of the four NAILS, all unlike, going round")
    static void theSameTwoNailsDoNotCross(Checks c) {
        c.due("a-g a-g", crossingsOn("NT0agT0ag"), 0);
        c.due("a-g g-a", crossingsOn("NT0agT0ga"), 0);
    }

    @Says(words = "those of the one and those of the other come by turns.")
    static void crossingGoesRoundTheEndOfTheRing(Checks c) {
        c.due("l-b a-c", crossingsOn("NT0lbT0ac"), 1);
        c.due("b-l c-a", crossingsOn("NT0blT0ca"), 1);
        c.due("a-g l-b", crossingsOn("NT0agT0lb"), 1);
        c.due("k-a l-b", crossingsOn("NT0kaT0lb"), 1);
    }

    @Says(words = "those of the one and those of the other come by turns.")
    static void sideBySideDoesNotCross(Checks c) {
        c.due("a-b c-d", crossingsOn("NT0abT0cd"), 0);
        c.due("a-f g-l", crossingsOn("NT0afT0gl"), 0);
        c.due("within: a-g b-f", crossingsOn("NT0agT0bf"), 0);
        c.due("within, round the end: k-d l-b", crossingsOn("NT0kdT0lb"), 0);
    }

    @Says(words = "(Never three at one point.)")
    static void allThroughTheMiddleCrossTwoByTwo(Checks c) {
        NailThreads x = Checks.boardOf("NT0agT0bhT0ciT0dj");
        c.due("four: cross", x.count(3), 6);
        c.due("four: parts", x.parts(), 1 + 4 + 6);
    }

    // ---- the text

    @Says(words = "THE TEXT is letters (48 at most).")
    static void theTextHas48LettersAtMost(Checks c) {
        NailThreads x = new NailThreads();
        for (int i = 1; i <= 47; i++) {
            x.write('N');
        }
        c.due("the 48th", x.write('N'), 48);
        c.due("the 49th", x.write('N'), FULL);
        c.due("letters", x.count(0), 48);
    }

    @Says(words = "A BOARD is a TEXT: N, then THREADS, none or more (4 at most)")
    static void aBoardMayHaveNoThreads(Checks c) {
        NailThreads x = new NailThreads();
        x.write('N');
        c.due("N, fault", x.fault(), NONE);
        c.due("N, board", x.board(), 0);
    }

    @Says(words = "A BOARD is a TEXT: N, then THREADS, none or more (4 at most)")
    static void aBoardBeginsWithN(Checks c) {
        c.due("nothing", Checks.faultOf(""), 0);
        c.due("a small n", Checks.faultOf("n"), 0);
        c.due("no N", Checks.faultOf("T0a"), 0);
        c.due("two", Checks.faultOf("NN"), 1);
    }

    @Says(words = "A BOARD is a TEXT: N, then THREADS, none or more (4 at most)")
    static void aBoardMayHaveFourThreads(Checks c) {
        NailThreads x = new NailThreads();
        Checks.tell(x, "NT0aT0bT0cT0d");
        c.due("four, fault", x.fault(), NONE);
        c.due("four, board", x.board(), 4);
    }

    @Says(words = "A BOARD is a TEXT: N, then THREADS, none or more (4 at most)")
    static void aFifthThreadIsAFaultAtItsFirstLetter(Checks c) {
        c.due("five", Checks.faultOf("NT0aT0bT0cT0dT0e"), 13);
        c.due("only its T", Checks.faultOf("NT0aT0bT0cT0dT"), 13);
    }

    @Says(words = "Tk and 1 to 9 NAILS, each a letter")
    static void aThreadHasAtLeastOneNail(Checks c) {
        c.due("none, at the end", Checks.faultOf("NT0"), 3);
        c.due("none, a thread behind it", Checks.faultOf("NT0T0a"), 3);
        c.due("one", Checks.faultOf("NT0a"), NONE);
    }

    @Says(words = "Tk and 1 to 9 NAILS, each a letter")
    static void aThreadMayBeToldByNineNails(Checks c) {
        NailThreads x = new NailThreads();
        Checks.tell(x, "NT0ababababa");
        c.due("nine, fault", x.fault(), NONE);
        x.board();
        c.due("nine: eight stretches", x.thread(0, 2), 8);
    }

    @Says(words = "Tk and 1 to 9 NAILS, each a letter")
    static void aTenthNailIsAFault(Checks c) {
        c.due("ten", Checks.faultOf("NT0ababababab"), 12);
        c.due("a thread behind nine", Checks.faultOf("NT0ababababaT0a"), NONE);
    }

    @Says(words = "a THREAD of KIND k (0 PLAIN, 1 STIFF, 2 GUT, 3 ELASTIC)")
    static void kindsAre0To3(Checks c) {
        c.due("below 0", Checks.faultOf("NT/a"), 2);
        c.due("0", Checks.boardOf("NT0a").thread(0, 1), 0);
        c.due("3", Checks.boardOf("NT3a").thread(0, 1), 3);
        c.due("4", Checks.faultOf("NT4a"), 2);
    }

    @Says(words = "WOUND to the others, one behind the other, each as it may be")
    static void toldToTheNailWhereItIsIsAFault(Checks c) {
        c.due("a a", Checks.faultOf("NT0aa"), 4);
        c.due("a b b", Checks.faultOf("NT0abb"), 5);
    }

    @Says(words = "WOUND to the others, one behind the other, each as it may be")
    static void aStiffOneToldToTheNailBesideIsAFault(Checks c) {
        c.due("a c d", Checks.faultOf("NT1acd"), 5);
        c.due("a l", Checks.faultOf("NT1al"), 4);
        c.due("l a", Checks.faultOf("NT1la"), 4);
        c.due("a c e", Checks.faultOf("NT1ace"), NONE);
    }

    @Says(words = "WOUND to the others, one behind the other, each as it may be")
    static void aGutToldOverItselfIsAFault(Checks c) {
        c.due("a g d j", Checks.faultOf("NT2agdj"), 6);
        c.due("over another one", Checks.faultOf("NT2agT2dj"), NONE);
    }

    @Says(words = "WOUND to the others, one behind the other, each as it may be")
    static void anElasticOneToldBeyond80IsAFault(Checks c) {
        c.due("four by 20", Checks.faultOf("NT3agaga"), NONE);
        c.due("and 10", Checks.faultOf("NT3agagac"), 8);
        c.due("beside", Checks.faultOf("NT3ab"), 4);
    }

    // ---- the fault

    @Says(words = "the place of the first letter by which THE TEXT can be no BOARD, whatever came behind it")
    static void ofSeveralFaultsTheFirst(Checks c) {
        c.due("at once", Checks.faultOf("XXX"), 0);
        c.due("4, then X", Checks.faultOf("NT4X"), 2);
        c.due("a a, then m", Checks.faultOf("NT0aam"), 4);
    }

    @Says(words = "the place of the first letter by which THE TEXT can be no BOARD, whatever came behind it")
    static void whatComesBehindDoesNotMendAFault(Checks c) {
        c.due("a a T0b", Checks.faultOf("NT0aaT0b"), 4);
        c.due("N behind X", Checks.faultOf("XNT0a"), 0);
    }

    @Says(words = "whatever came behind it (its length set aside)")
    static void theLongestBoardLeavesRoom(Checks c) {
        c.due("45 letters", Checks.faultOf(LONGEST), NONE);
        c.due("and 3 that could go on, were there room for threads", Checks.faultOf(LONGEST + "T0a"), 45);
        c.due("board", Checks.boardOf(LONGEST).count(2), 32);
    }

    @Says(words = "its length, if it is only not at its end; NONE: none.")
    static void aTextThatIsNotAtItsEndHasItsLength(Checks c) {
        c.due("nothing", Checks.faultOf(""), 0);
        c.due("NT", Checks.faultOf("NT"), 2);
        c.due("NT0", Checks.faultOf("NT0"), 3);
        c.due("NT0aT", Checks.faultOf("NT0aT"), 5);
        c.due("NT0aT3", Checks.faultOf("NT0aT3"), 6);
    }

    @Says(words = "its length, if it is only not at its end; NONE: none.")
    static void aWholeBoardHasNoFault(Checks c) {
        c.due("N", Checks.faultOf("N"), NONE);
        c.due("NT0a", Checks.faultOf("NT0a"), NONE);
        c.due("NT0ab", Checks.faultOf("NT0ab"), NONE);
    }

    @Says(words = "At first there are no THREADS.")
    static void atFirstThereAreNoThreads(Checks c) {
        NailThreads x = new NailThreads();
        c.due("threads", x.count(1), 0);
        c.due("the first", x.thread(0, 0), UNKNOWN);
        x.write('N');
        x.write('T');
        x.write('0');
        x.write('a');
        c.due("a text alone is no board", x.count(1), 0);
    }

    // ---- wound

    @Says(words = "a THREAD goes on from the NAIL at which it is to another one")
    static void notToTheNailWhereItIs(Checks c) {
        for (int kind = 0; kind <= 3; kind++) {
            NailThreads x = Checks.boardOf("NT" + kind + "agT" + kind + "l");
            c.due("kind " + kind + " at g", x.wind(0, 6), STATE);
            c.due("kind " + kind + " at l", x.wind(1, 11), STATE);
            c.due("kind " + kind + ", bit of g", x.thread(0, 4) >> 6 & 1, 0);
        }
    }

    @Says(words = "a STRETCH more, that lies over all that are there.")
    static void aNewStretchLiesUppermost(Checks c) {
        NailThreads x = Checks.boardOf("NT0aT0dj");
        x.wind(0, 6);
        c.due("the second", x.stretch(1, 0), 0);
        x.behind();
        x.wind(1, 0);
        c.due("from behind too", x.stretch(2, 0), 1);
        c.due("nothing over it", x.stretch(2, 4), 0);
    }

    @Says(words = "PLAIN: to any other NAIL, if it has fewer than 12 STRETCHES")
    static void aPlainOneGoesToAllOtherNails(Checks c) {
        for (int nail = 0; nail <= 11; nail++) {
            NailThreads x = Checks.boardOf("NT0" + (char) ('a' + nail));
            c.due("from " + nail, x.thread(0, 4), ALL_NAILS - (1 << nail));
        }
    }

    private static NailThreads withEleven(int kind) {
        NailThreads x = Checks.boardOf("NT" + kind + "acacacacaT0d");
        Checks.windToAndFro(x, 0, 2, 0, 3);
        return x;
    }

    private static void twelveAndNoMore(Checks c, int kind) {
        NailThreads x = withEleven(kind);
        c.due("has 11", x.thread(0, 2), 11);
        c.holds("may be wound", x.thread(0, 4) != 0);
        c.due("the 12th", x.wind(0, 0), 0);
        c.due("has 12", x.thread(0, 2), 12);
        c.due("the 13th", x.wind(0, 2), STATE);
        c.due("may to none", x.thread(0, 4), 0);
        c.due("another one may", x.wind(1, 5), 0);
    }

    @Says(words = "PLAIN: to any other NAIL, if it has fewer than 12 STRETCHES")
    static void aPlainOneHasTwelveAtMost(Checks c) {
        twelveAndNoMore(c, 0);
    }

    @Says(words = "PLAIN: to any other NAIL, if it has fewer than 12 STRETCHES")
    static void fourThreadsMayHaveTwelveEach(Checks c) {
        NailThreads x = Checks.boardOf("NT0aT0aT0aT0a");
        for (int t = 0; t < 4; t++) {
            Checks.windToAndFro(x, t, 6, 0, 11);
            c.due("the 12th of " + t, x.wind(t, 0), 0);
            c.due("the 13th of " + t, x.wind(t, 6), STATE);
        }
        c.due("stretches", x.count(2), 48);
        c.due("the uppermost", x.stretch(47, 0), 3);
    }

    @Says(words = "STIFF: likewise, not to one APART by 1")
    static void aStiffOneDoesNotGoToTheNailBeside(Checks c) {
        for (int nail = 0; nail <= 11; nail++) {
            NailThreads x = Checks.boardOf("NT1" + (char) ('a' + nail));
            int on = (nail + 1) % 12;
            int back = (nail + 11) % 12;
            c.due("on from " + nail, x.wind(0, on), STATE);
            c.due("back from " + nail, x.wind(0, back), STATE);
            c.due("all others from " + nail, x.thread(0, 4), ALL_NAILS - (1 << nail) - (1 << on) - (1 << back));
        }
    }

    @Says(words = "STIFF: likewise, not to one APART by 1")
    static void aStiffOneGoesToTheNailTwoOn(Checks c) {
        c.due("a to c", Checks.boardOf("NT1a").wind(0, 2), 0);
        c.due("a to k", Checks.boardOf("NT1a").wind(0, 10), 0);
        c.due("l to b", Checks.boardOf("NT1l").wind(0, 1), 0);
    }

    @Says(words = "STIFF: likewise, not to one APART by 1")
    static void aStiffOneHasTwelveAtMost(Checks c) {
        twelveAndNoMore(c, 1);
    }

    @Says(words = "GUT: as PLAIN, if the new STRETCH CROSSES none of its own")
    static void aGutDoesNotCrossItself(Checks c) {
        NailThreads x = Checks.boardOf("NT2agd");
        c.due("d to j over a-g", x.wind(0, 9), STATE);
        c.due("within a-g, and to its ends", x.thread(0, 4), 1 + 2 + 4 + 16 + 32 + 64);
        x.behind();
        c.due("from behind, j to d", x.wind(0, 3), STATE);
    }

    @Says(words = "GUT: as PLAIN, if the new STRETCH CROSSES none of its own")
    static void aGutCrossesOthers(Checks c) {
        c.due("over a plain one", Checks.boardOf("NT0agT2d").wind(1, 9), 1);
        c.due("over another gut", Checks.boardOf("NT2agT2d").wind(1, 9), 1);
    }

    @Says(words = "GUT: as PLAIN, if the new STRETCH CROSSES none of its own")
    static void aGutMayTouchItself(Checks c) {
        c.due("back along itself", Checks.boardOf("NT2ag").wind(0, 0), 0);
        c.due("to a nail of its own", Checks.boardOf("NT2agd").wind(0, 0), 0);
        c.due("to the nail beside", Checks.boardOf("NT2a").wind(0, 1), 0);
    }

    @Says(words = "GUT: as PLAIN, if the new STRETCH CROSSES none of its own")
    static void aGutHasTwelveAtMost(Checks c) {
        twelveAndNoMore(c, 2);
    }

    @Says(words = "ELASTIC: as STIFF, if its STRETCHES then are LONG by 80 together at most.")
    static void anElasticOneReaches80(Checks c) {
        NailThreads x = Checks.boardOf("NT3agag");
        c.due("60 and 20", x.wind(0, 0), 0);
        c.due("80", x.thread(0, 3), 80);
        c.due("no more", x.thread(0, 4), 0);
    }

    @Says(words = "ELASTIC: as STIFF, if its STRETCHES then are LONG by 80 together at most.")
    static void anElasticOneDoesNotReach81(Checks c) {
        NailThreads x = Checks.boardOf("NT3aeiag");
        c.due("17 17 17 20", x.thread(0, 3), 71);
        c.due("and 10 to i", x.wind(0, 8), STATE);
        c.due("and 10 to e", x.wind(0, 4), STATE);
        c.due("71 still", x.thread(0, 3), 71);
    }

    @Says(words = "ELASTIC: as STIFF, if its STRETCHES then are LONG by 80 together at most.")
    static void anElasticOneDoesNotGoToTheNailBeside(Checks c) {
        NailThreads x = Checks.boardOf("NT3aT3aeiag");
        c.due("a to b", x.wind(0, 1), STATE);
        c.due("a to l", x.wind(0, 11), STATE);
        c.due("g to h, though 76 is not beyond 80", x.wind(1, 7), STATE);
    }

    @Says(words = "ELASTIC: as STIFF, if its STRETCHES then are LONG by 80 together at most.")
    static void eachElasticOneReachesForItself(Checks c) {
        NailThreads x = Checks.boardOf("NT3agagaT3b");
        c.due("another one", x.wind(1, 7), 4);
    }

    // ---- as they lie, unwound, cut, turned, behind

    @Says(words = "STRETCHES are numbered as they lie, 0 the undermost.")
    static void theUndermostIs0(Checks c) {
        NailThreads x = Checks.boardOf("NT0agT0dj");
        c.due("undermost", x.stretch(0, 0), 0);
        c.due("one over it", x.stretch(0, 4), 1);
        c.due("uppermost", x.stretch(1, 0), 1);
        c.due("none over it", x.stretch(1, 4), 0);
    }

    @Says(words = "the last STRETCH of a THREAD is gone, if none that CROSSES it lies over it")
    static void oneThatCrossesAndLiesOverHoldsIt(Checks c) {
        NailThreads x = Checks.boardOf("NT0agT0djT0bc");
        c.due("d-j over a-g", x.unwind(0), STATE);
        c.due("can not", x.thread(0, 5), 0);
    }

    @Says(words = "the last STRETCH of a THREAD is gone, if none that CROSSES it lies over it")
    static void oneThatLiesUnderDoesNotHoldIt(Checks c) {
        NailThreads x = Checks.boardOf("NT0agT0dj");
        c.due("can", x.thread(1, 5), 1);
        c.due("d-j over a-g", x.unwind(1), 3);
    }

    @Says(words = "the last STRETCH of a THREAD is gone, if none that CROSSES it lies over it")
    static void oneThatDoesNotCrossDoesNotHoldIt(Checks c) {
        NailThreads x = Checks.boardOf("NT0agT0bcT0gjT0ag");
        c.due("can", x.thread(0, 5), 1);
        c.due("b-c, g-j and a-g over a-g", x.unwind(0), 0);
        c.due("three are left", x.count(2), 3);
    }

    @Says(words = "the last STRETCH of a THREAD is gone, if none that CROSSES it lies over it")
    static void itsOwnHoldItFromBehind(Checks c) {
        NailThreads x = Checks.boardOf("NT0agdj");
        c.due("free from before", x.thread(0, 5), 1);
        x.behind();
        c.due("a-g over its last", x.unwind(0), STATE);
    }

    @Says(words = "it is at the NAIL from which that came.")
    static void theOnlyStretchUnwoundLeavesItTied(Checks c) {
        NailThreads x = Checks.boardOf("NT0ag");
        c.due("back at a", x.unwind(0), 0);
        c.due("is at a", x.thread(0, 0), 0);
        c.due("has none", x.thread(0, 2), 0);
        c.due("is a thread still", x.count(1), 1);
    }

    @Says(words = "CUT: all STRETCHES of a THREAD are gone; it is tied to the NAIL at which it is.")
    static void cutThoughOthersLieOverIt(Checks c) {
        NailThreads x = Checks.boardOf("NT0agT0dj");
        c.due("under d-j", x.cut(0), 1);
        c.due("the other stays", x.stretch(0, 0), 1);
        c.due("tied to g", x.thread(0, 0), 6);
    }

    @Says(words = "CUT: all STRETCHES of a THREAD are gone; it is tied to the NAIL at which it is.")
    static void allTwelveAreCut(Checks c) {
        NailThreads x = withEleven(0);
        x.wind(0, 0);
        c.due("twelve", x.cut(0), 12);
        c.due("none left", x.count(2), 0);
        c.due("it may be wound again", x.wind(0, 2), 0);
    }

    @Says(words = "CUT: all STRETCHES of a THREAD are gone; it is tied to the NAIL at which it is.")
    static void anElasticOneReachesAgainWhenCut(Checks c) {
        NailThreads x = Checks.boardOf("NT3agaga");
        x.cut(0);
        c.due("length", x.thread(0, 3), 0);
        c.due("to g", x.wind(0, 6), 0);
    }

    @Says(words = "TURNED: each NAIL becomes that of 1 more (11: 0).")
    static void turnedTheLastNailIsTheFirst(Checks c) {
        NailThreads x = Checks.boardOf("NT0alT0lkT0l");
        x.turn();
        c.due("from a: b", x.stretch(0, 1), 1);
        c.due("to l: a", x.stretch(0, 2), 0);
        c.due("from l: a", x.stretch(1, 1), 0);
        c.due("at l: a", x.thread(0, 0), 0);
        c.due("tied to l: a", x.thread(2, 0), 0);
        c.due("at k: l", x.thread(1, 0), 11);
    }

    @Says(words = "TURNED: each NAIL becomes that of 1 more (11: 0).")
    static void turnedTwelveTimesItIsAsItWas(Checks c) {
        NailThreads x = Checks.boardOf("NT0agdT2lT3ci");
        NailThreads y = Checks.boardOf("NT0agdT2lT3ci");
        for (int i = 0; i < 12; i++) {
            x.turn();
        }
        for (int t = 0; t < 3; t++) {
            c.due("thread " + t, x.thread(t, 0), y.thread(t, 0));
        }
        for (int s = 0; s < 3; s++) {
            c.due("from of " + s, x.stretch(s, 1), y.stretch(s, 1));
            c.due("to of " + s, x.stretch(s, 2), y.stretch(s, 2));
        }
    }

    @Says(words = "NAIL n becomes 12 less n (0: 0)")
    static void fromBehindNail0Stays(Checks c) {
        NailThreads x = Checks.boardOf("NT0agaT0a");
        x.behind();
        c.due("at a", x.thread(0, 0), 0);
        c.due("tied to a", x.thread(1, 0), 0);
        c.due("from a", x.stretch(1, 1), 0);
        c.due("to a", x.stretch(0, 2), 0);
    }

    @Says(words = "NAIL n becomes 12 less n (0: 0)")
    static void fromBehindEachNailIs12Less(Checks c) {
        for (int nail = 1; nail <= 11; nail++) {
            NailThreads x = Checks.boardOf("NT0a" + (char) ('a' + nail));
            x.behind();
            c.due("at " + nail, x.thread(0, 0), 12 - nail);
            c.due("to " + nail, x.stretch(0, 2), 12 - nail);
        }
    }

    @Says(words = "all lie the other way round, the uppermost undermost.")
    static void fromBehindTheUppermostIsUndermost(Checks c) {
        NailThreads even = Checks.boardOf("NT0abT0abT0abT0ab");
        even.behind();
        NailThreads odd = Checks.boardOf("NT0abT0abT0ab");
        odd.behind();
        for (int i = 0; i < 4; i++) {
            c.due("of four, " + i, even.stretch(i, 0), 3 - i);
        }
        for (int i = 0; i < 3; i++) {
            c.due("of three, " + i, odd.stretch(i, 0), 2 - i);
        }
    }

    @Says(words = "all lie the other way round, the uppermost undermost.")
    static void fromBehindTwiceItIsAsItWas(Checks c) {
        NailThreads x = Checks.boardOf("NT0agdT0ljT2b");
        NailThreads y = Checks.boardOf("NT0agdT0ljT2b");
        x.behind();
        c.holds("once it is not", x.stretch(0, 0) != y.stretch(0, 0));
        x.behind();
        for (int s = 0; s < 3; s++) {
            for (int what = 0; what <= 5; what++) {
                c.due("stretch " + s + " " + what, x.stretch(s, what), y.stretch(s, what));
            }
        }
        for (int t = 0; t < 3; t++) {
            c.due("thread " + t, x.thread(t, 0), y.thread(t, 0));
        }
    }

    // ---- the row of acts

    @Says(words = "are a row (14 at most; of more the first one is forgotten)")
    static void fourteenActsAreAllUndone(Checks c) {
        NailThreads x = Checks.boardOf("NT0a");
        for (int i = 0; i < 14; i++) {
            x.turn();
        }
        c.due("acts", x.count(6), 14);
        for (int left = 13; left >= 0; left--) {
            c.due("left", x.undo(), left);
        }
        c.due("at a", x.thread(0, 0), 0);
        c.due("none is left", x.undo(), STATE);
    }

    @Says(words = "are a row (14 at most; of more the first one is forgotten)")
    static void ofFifteenActsTheFirstIsForgotten(Checks c) {
        NailThreads x = Checks.boardOf("NT0a");
        for (int i = 0; i < 15; i++) {
            x.turn();
        }
        c.due("acts", x.count(6), 14);
        for (int i = 0; i < 14; i++) {
            x.undo();
        }
        c.due("at b", x.thread(0, 0), 1);
        c.due("the first is forgotten", x.undo(), STATE);
    }

    @Says(words = "the last one can be undone.")
    static void eachKindOfActIsUndone(Checks c) {
        String[] acts = {"wind", "unwind", "cut", "turn", "behind"};
        for (int act = 0; act < acts.length; act++) {
            NailThreads x = Checks.boardOf("NT0agdT0ljT2b");
            String was = Picture.of(x);
            int answer = act == 0 ? x.wind(2, 5) : act == 1 ? x.unwind(1) : act == 2 ? x.cut(0)
                : act == 3 ? x.turn() : x.behind();
            c.holds(acts[act] + " is done", answer >= 0);
            c.holds(acts[act] + " changes the board", !Picture.of(x).equals(was));
            c.due(acts[act] + " undone", x.undo(), 0);
            c.same(acts[act] + " undone", Picture.of(x), was);
        }
    }
}
