import java.io.IOException;

/** Terms, the second part: an edge of what lies above, of parts, strokes, next nails, stars and judging in each test. */
public final class EdgesOfLooksTest {
    private static final int NONE = -9;

    public static void main(String[] args) throws IOException {
        Edges.run(EdgesOfLooksTest.class);
    }

    @Says(words = "In what follows nothing is changed.")
    static void looksChangeNothing(Checks c) {
        NailThreads x = Checks.boardOf("NT0agT1djT2b");
        x.turn();
        x.keep(1);
        for (int t = 0; t < 3; t++) {
            x.next(t, 0);
            x.next(t, 1);
            x.star(t, 5, 12, 2);
            x.share(t, true);
            x.crossings(t, 1);
        }
        x.stretch(0, 5);
        x.parts();
        x.strokes();
        x.judge(4, 1200500030002001L);
        x.judge(3, 400030011109L);
        x.stars(1);
        x.rests(0, 2, 0);
        x.snaps(1, 5, true);
        NailThreads y = Checks.boardOf("NT0agT1djT2b");
        y.turn();
        y.keep(1);
        c.same("looks", Picture.toTheEnd(x), Picture.toTheEnd(y));
    }

    // ---- above

    @Says(words = "ABOVE a STRETCH: all that lie over it and CROSS it")
    static void nothingIsAboveTheUppermost(Checks c) {
        NailThreads x = Checks.boardOf("NT0agT0dj");
        c.due("uppermost", x.stretch(1, 5), 0);
        c.due("undermost", x.stretch(0, 5), 1);
        c.due("alone", Checks.boardOf("NT0ag").stretch(0, 5), 0);
    }

    @Says(words = "ABOVE a STRETCH: all that lie over it and CROSS it")
    static void whatDoesNotCrossIsNotAbove(Checks c) {
        c.due("b-c, a-d and a-g over a-g", Checks.boardOf("NT0agT0bcT0adT0ag").stretch(0, 5), 0);
    }

    @Says(words = "or that lie over and CROSS one that is ABOVE it: how many.")
    static void aboveGoesOnFromOneToTheNext(Checks c) {
        NailThreads x = Checks.boardOf("NT0acT0beT0dgT0fi");
        c.due("a-c: b-e, over that d-g, over that f-i", x.stretch(0, 5), 3);
        c.due("one crosses it", x.stretch(0, 4), 1);
        c.due("b-e", x.stretch(1, 5), 2);
    }

    @Says(words = "or that lie over and CROSS one that is ABOVE it: how many.")
    static void whatLiesUnderOneAboveIsNotAbove(Checks c) {
        c.due("a-c: b-e, that lies over d-g", Checks.boardOf("NT0acT0dgT0be").stretch(0, 5), 1);
        c.due("d-g undermost", Checks.boardOf("NT0dgT0acT0be").stretch(1, 5), 1);
    }

    @Says(words = "or that lie over and CROSS one that is ABOVE it: how many.")
    static void whatIsAboveByTwoWaysCountsOnce(Checks c) {
        c.due("b-h over d-j over a-g", Checks.boardOf("NT0agT0djT0bh").stretch(0, 5), 2);
    }

    private static NailThreads full() {
        NailThreads x = Checks.boardOf("NT0aT0dT0aT0d");
        for (int t = 0; t < 4; t++) {
            Checks.windToAndFro(x, t, t % 2 == 0 ? 6 : 9, t % 2 == 0 ? 0 : 3, 12);
        }
        return x;
    }

    @Says(words = "or that lie over and CROSS one that is ABOVE it: how many.")
    static void aboveOnAFullBoard(Checks c) {
        NailThreads x = full();
        c.due("stretches", x.count(2), 48);
        c.due("of the undermost: all but those of its own thread", x.stretch(0, 5), 36);
        c.due("of the last of thread 1: 12 over it, and 12 over these", x.stretch(23, 5), 24);
        c.due("of the last but twelve", x.stretch(35, 5), 12);
        c.due("of the uppermost", x.stretch(47, 5), 0);
    }

    // ---- parts

    @Says(words = "1, and 1 for each of them, and 1 for each two that CROSS.")
    static void anEmptyBoardIsOnePart(Checks c) {
        c.due("no threads", new NailThreads().parts(), 1);
        c.due("tied ones alone", Checks.boardOf("NT0aT0b").parts(), 1);
    }

    @Says(words = "(those between the same two NAILS count as one): 1, and 1 for each of them")
    static void partsByTheSameTwoNailsCountOnce(Checks c) {
        c.due("to and fro", Checks.boardOf("NT0agag").parts(), 2);
        c.due("of two threads, either way", Checks.boardOf("NT0agT0ga").parts(), 2);
    }

    @Says(words = "1, and 1 for each of them, and 1 for each two that CROSS.")
    static void crossingTheSameTwoNailsCountsOnce(Checks c) {
        NailThreads x = Checks.boardOf("NT0agagT0djdj");
        c.due("nine cross", x.count(3), 9);
        c.due("parts", x.parts(), 1 + 2 + 1);
        c.due("of a full board", full().parts(), 1 + 2 + 1);
    }

    @Says(words = "1, and 1 for each of them, and 1 for each two that CROSS.")
    static void aStretchToTheNailBesideCutsToo(Checks c) {
        c.due("a-b", Checks.boardOf("NT0ab").parts(), 2);
        c.due("l-a", Checks.boardOf("NT0la").parts(), 2);
    }

    @Says(words = "1, and 1 for each of them, and 1 for each two that CROSS.")
    static void partsOfTheWholeRing(Checks c) {
        NailThreads x = Checks.boardOf("NT0aT0a");
        for (int i = 1; i <= 12; i++) {
            x.wind(0, i % 12);
        }
        c.due("twelve that do not cross", x.parts(), 13);
        for (int i = 1; i <= 12; i++) {
            x.wind(1, 5 * i % 12);
        }
        c.due("and a star of twelve, each crossed by eight", x.parts(), 1 + 24 + 48);
    }

    // ---- strokes

    @Says(words = "STROKES: by how few THREADS, each wound in one go over STRETCHES")
    static void noStretchesNeedNoStroke(Checks c) {
        c.due("no threads", new NailThreads().strokes(), 0);
        c.due("tied ones alone", Checks.boardOf("NT0aT0b").strokes(), 0);
    }

    @Says(words = "(those between the same two NAILS count as one), all could be, none twice.")
    static void strokesOverTheSameTwoNailsCountOnce(Checks c) {
        c.due("a-b twice, a-c, a-d", Checks.boardOf("NT0abT0abT0acT0ad").strokes(), 2);
        c.due("a-g four times", Checks.boardOf("NT0agagaT0c").strokes(), 1);
    }

    @Says(words = "(those between the same two NAILS count as one), all could be, none twice.")
    static void aWayRoundNeedsOneStroke(Checks c) {
        c.due("a e i a", Checks.boardOf("NT0aeia").strokes(), 1);
        c.due("two that meet at a", Checks.boardOf("NT0aeiaT0acka").strokes(), 1);
        c.due("two that do not meet", Checks.boardOf("NT0aeiaT0cgkc").strokes(), 2);
    }

    @Says(words = "(those between the same two NAILS count as one), all could be, none twice.")
    static void eachTwoOddEndsNeedAStroke(Checks c) {
        c.due("two: one line", Checks.boardOf("NT0abc").strokes(), 1);
        c.due("three from a", Checks.boardOf("NT0abT0acT0ad").strokes(), 2);
        c.due("five from a", Checks.boardOf("NT0bacadT0eaf").strokes(), 3);
    }

    @Says(words = "(those between the same two NAILS count as one), all could be, none twice.")
    static void whatOnlyCrossesIsNotJoined(Checks c) {
        c.due("a-g d-j", Checks.boardOf("NT0agT0dj").strokes(), 2);
        c.due("four", Checks.boardOf("NT0agT0djT0bhT0ek").strokes(), 4);
    }

    // ---- next

    @Says(words = "of like ones the least: which; how many; NONE: to none.")
    static void ofLikeNailsTheLeast(Checks c) {
        c.due("none crosses: b", Checks.boardOf("NT0a").next(0, 0), 1);
        c.due("none crosses: a", Checks.boardOf("NT0l").next(0, 0), 0);
        NailThreads x = Checks.boardOf("NT0agT0bhT0d");
        c.due("i j k l cross both: i", x.next(2, 0), 8);
        c.due("both", x.next(2, 1), 2);
    }

    @Says(words = "of like ones the least: which; how many; NONE: to none.")
    static void nextMayCrossNone(Checks c) {
        c.due("how many", Checks.boardOf("NT0a").next(0, 1), 0);
        c.due("stiff: c", Checks.boardOf("NT1a").next(0, 0), 2);
    }

    @Says(words = "of like ones the least: which; how many; NONE: to none.")
    static void nextToNone(Checks c) {
        NailThreads x = Checks.boardOf("NT3agaga");
        c.due("which", x.next(0, 0), NONE);
        c.due("how many", x.next(0, 1), NONE);
        NailThreads y = Checks.boardOf("NT0ababababa");
        Checks.windToAndFro(y, 0, 1, 0, 4);
        c.due("with 12", y.next(0, 0), NONE);
    }

    @Says(words = "NEXT of a THREAD: the NAIL to which it may be WOUND by which its STRETCH CROSSES most")
    static void nextIsOneToWhichItMay(Checks c) {
        NailThreads x = Checks.boardOf("NT0bhT0fjT3acegikac");
        c.due("70 used, at c: to a or e, though others cross more", x.next(2, 0), 0);
        c.due("only b-h", x.next(2, 1), 1);
        c.due("gut, not over itself", Checks.boardOf("NT2agd").next(0, 0), 0);
    }

    @Says(words = "by which its STRETCH CROSSES most that are there")
    static void eachThatIsThereCounts(Checks c) {
        NailThreads x = Checks.boardOf("NT0agagagagaT0d");
        c.due("eight between a and g", x.next(1, 1), 8);
    }

    // ---- a star

    @Says(words = "A STAR of a THREAD by k (1 to 11) and n (0 to 12)")
    static void aStarByOneStep(Checks c) {
        c.due("l, 1 on", Checks.boardOf("NT0l").star(0, 1, 1, 1), 0);
        c.due("a, 1 on, 12 times", Checks.boardOf("NT0a").star(0, 1, 12, 1), 0);
        c.due("crosses none", Checks.boardOf("NT0a").star(0, 1, 12, 2), 0);
    }

    @Says(words = "A STAR of a THREAD by k (1 to 11) and n (0 to 12)")
    static void aStarByElevenSteps(Checks c) {
        c.due("a, 11 on", Checks.boardOf("NT0a").star(0, 11, 1, 1), 11);
        c.due("l, 11 on", Checks.boardOf("NT0l").star(0, 11, 1, 1), 10);
    }

    @Says(words = "A STAR of a THREAD by k (1 to 11) and n (0 to 12)")
    static void aStarOfNoTimes(Checks c) {
        NailThreads x = Checks.boardOf("NT0agT0d");
        c.due("times", x.star(1, 6, 0, 0), 0);
        c.due("nail", x.star(1, 6, 0, 1), 3);
        c.due("crosses", x.star(1, 6, 0, 2), 0);
    }

    @Says(words = "A STAR of a THREAD by k (1 to 11) and n (0 to 12)")
    static void aStarOfTwelveTimes(Checks c) {
        NailThreads x = Checks.boardOf("NT0a");
        c.due("times", x.star(0, 5, 12, 0), 12);
        c.due("nail", x.star(0, 5, 12, 1), 0);
        c.due("each is crossed by eight", x.star(0, 5, 12, 2), 48);
        c.due("eleven times: at h", x.star(0, 5, 11, 1), 7);
    }

    @Says(words = "each time k NAILS on, as far as it may: how many times it was")
    static void aStarAsFarAsItMay(Checks c) {
        NailThreads x = Checks.boardOf("NT0ababababaT1aT2aT3a");
        c.due("plain with 8: 4 more", x.star(0, 1, 12, 0), 4);
        c.due("plain: at e", x.star(0, 1, 12, 1), 4);
        c.due("stiff beside", x.star(1, 1, 12, 0), 0);
        c.due("stiff beside: stays", x.star(1, 11, 12, 1), 0);
        c.due("gut: a-f f-k, not k-d", x.star(2, 5, 12, 0), 2);
        c.due("elastic: 8 by 10", x.star(3, 2, 12, 0), 8);
        c.due("elastic: 4 by 19", x.star(3, 5, 12, 0), 4);
        c.due("elastic: 4 by 20", x.star(3, 6, 12, 0), 4);
    }

    @Says(words = "how many STRETCHES these CROSS (those that were there, and of these each two once).")
    static void aStarsOwnCrossOnce(Checks c) {
        c.due("a-f f-k k-d: the last and the first", Checks.boardOf("NT0a").star(0, 5, 3, 2), 1);
        c.due("d-j that was there, three times", Checks.boardOf("NT0djT0a").star(1, 6, 3, 2), 3);
        c.due("its own that was there", Checks.boardOf("NT0agd").star(0, 6, 1, 2), 1);
        c.due("what crossed ahead of it does not count", Checks.boardOf("NT0agT0djT0b").star(2, 1, 1, 2), 0);
    }

    // ---- judged

    private static int judged(String text, int n, long row) {
        return Checks.boardOf(text).judge(n, row);
    }

    @Says(words = "JUDGED: n doings (1 to 4), told as four figures each")
    static void oneDoingIsJudged(Checks c) {
        c.due("turned", judged("NT0ag", 1, 4000), NONE);
        c.due("no such thread", judged("NT0ag", 1, 2001), 0);
    }

    @Says(words = "JUDGED: n doings (1 to 4), told as four figures each")
    static void fourDoingsAreJudged(Checks c) {
        c.due("all can be", judged("NT0ag", 4, 4000500020001000L), NONE);
        c.due("the fourth can not", judged("NT0ag", 4, 4000500020002000L), 3);
        c.due("the highest row", judged("NT0ag", 4, 9999999999999999L), 0);
    }

    @Says(words = "the place of the first that can not be (or is not so); NONE: none.")
    static void thePlaceOfTheFirstThatCanNotBe(Checks c) {
        c.due("the first of four", judged("NT0ag", 4, 9000900090009000L), 0);
        c.due("the second", judged("NT0ag", 4, 4000900090009000L), 1);
        c.due("the third", judged("NT0ag", 4, 4000400090009000L), 2);
        c.due("the fourth", judged("NT0ag", 4, 4000400040009000L), 3);
        c.due("none", judged("NT0ag", 4, 4000400040004000L), NONE);
    }

    @Says(words = "told as four figures each")
    static void leadingNoughtsAreADoingThatCanNotBe(Checks c) {
        c.due("0000", judged("NT0ag", 1, 0), 0);
        c.due("0000 4000", judged("NT0ag", 2, 4000), 0);
        c.due("4000 0000", judged("NT0ag", 2, 40000000), 1);
        c.due("0999", judged("NT0ag", 1, 999), 0);
        c.due("8000", judged("NT0ag", 1, 8000), 0);
    }

    @Says(words = "1, a THREAD, two figures, 00 to 11: WOUND to that NAIL")
    static void judgedWoundTo00And11(Checks c) {
        c.due("00", judged("NT0aT0aT0aT0f", 1, 1300), NONE);
        c.due("11", judged("NT0aT0aT0aT0f", 1, 1311), NONE);
        c.due("12", judged("NT0aT0aT0aT0f", 1, 1312), 0);
        c.due("99", judged("NT0aT0aT0aT0f", 1, 1399), 0);
    }

    @Says(words = "1, a THREAD, two figures, 00 to 11: WOUND to that NAIL")
    static void judgedWoundWhereItMayNot(Checks c) {
        c.due("no thread 1", judged("NT0a", 1, 1106), 0);
        c.due("no thread 9", judged("NT0a", 1, 1906), 0);
        c.due("at that nail", judged("NT0a", 1, 1000), 0);
        c.due("stiff beside", judged("NT1a", 1, 1011), 0);
        c.due("elastic beyond 80", judged("NT3agaga", 1, 1002), 0);
    }

    @Says(words = "2, 0, 0, a THREAD: UNWOUND")
    static void judgedUnwound(Checks c) {
        c.due("free", judged("NT0agT0dj", 1, 2001), NONE);
        c.due("d-j lies over", judged("NT0agT0dj", 1, 2000), 0);
        c.due("d-j is gone first", judged("NT0agT0dj", 2, 20012000), NONE);
        c.due("none left", judged("NT0ag", 2, 20002000), 1);
        c.due("no such thread", judged("NT0ag", 1, 2001), 0);
        c.due("2010", judged("NT0ag", 1, 2010), 0);
        c.due("2100", judged("NT0ag", 1, 2100), 0);
    }

    @Says(words = "3, 0, 0, a THREAD: CUT")
    static void judgedCut(Checks c) {
        c.due("under d-j", judged("NT0agT0dj", 1, 3000), NONE);
        c.due("none left", judged("NT0agT0dj", 2, 30003000), 1);
        c.due("no such thread", judged("NT0agT0dj", 1, 3002), 0);
        c.due("3010", judged("NT0ag", 1, 3010), 0);
        c.due("3100", judged("NT0ag", 1, 3100), 0);
    }

    @Says(words = "4, 0, 0, 0: TURNED")
    static void judgedTurned(Checks c) {
        c.due("no threads", new NailThreads().judge(1, 4000), NONE);
        c.due("l is a then", judged("NT0l", 2, 40001000), 1);
        c.due("so to l", judged("NT0l", 2, 40001011), NONE);
        c.due("4001", judged("NT0l", 1, 4001), 0);
        c.due("4010", judged("NT0l", 1, 4010), 0);
        c.due("4100", judged("NT0l", 1, 4100), 0);
    }

    @Says(words = "5, 0, 0, 0: BEHIND")
    static void judgedBehind(Checks c) {
        c.due("no threads", new NailThreads().judge(1, 5000), NONE);
        c.due("b is l then", judged("NT0b", 2, 50001011), 1);
        c.due("a-g is uppermost then", judged("NT0agT0dj", 2, 50002000), NONE);
        c.due("d-j is not", judged("NT0agT0dj", 2, 50002001), 1);
        c.due("5001", judged("NT0l", 1, 5001), 0);
        c.due("5010", judged("NT0l", 1, 5010), 0);
        c.due("5100", judged("NT0l", 1, 5100), 0);
    }

    @Says(words = "6, two THREADS, v: their STRETCHES CROSS v times or more")
    static void judgedCrossingsOrMore(Checks c) {
        c.due("nine, and 9", judged("NT0agagT0djdj", 1, 6019), NONE);
        c.due("nine, and 8", judged("NT0agagT0djdj", 1, 6108), NONE);
        c.due("six, and 7", judged("NT0agaT0djdj", 1, 6017), 0);
        c.due("six, and 6", judged("NT0agaT0djdj", 1, 6106), NONE);
        c.due("none, and 0", judged("NT0aT0b", 1, 6010), NONE);
        c.due("none, and 1", judged("NT0aT0b", 1, 6011), 0);
        c.due("of the first and the last, nine", judged("NT0agagT0bT0cT0djdj", 1, 6039), NONE);
        c.due("of the last and the first, nine", judged("NT0agagT0bT0cT0djdj", 1, 6309), NONE);
    }

    @Says(words = "6, two THREADS, v: their STRETCHES CROSS v times or more")
    static void judgedCrossingsOfNoSuchThread(Checks c) {
        c.due("the one", judged("NT0aT0b", 1, 6200), 0);
        c.due("the other", judged("NT0aT0b", 1, 6020), 0);
        c.due("of none", new NailThreads().judge(1, 6000), 0);
    }

    @Says(words = "6, two THREADS, v: their STRETCHES CROSS v times or more")
    static void judgedCrossingsOfOneWithItself(Checks c) {
        c.due("once, and 1", judged("NT0agdj", 1, 6001), NONE);
        c.due("once, and 2", judged("NT0agdj", 1, 6002), 0);
    }

    @Says(words = "7, 0, two figures: there are so many PARTS or more")
    static void judgedPartsOrMore(Checks c) {
        c.due("one, and 01", new NailThreads().judge(1, 7001), NONE);
        c.due("one, and 02", new NailThreads().judge(1, 7002), 0);
        c.due("one, and 00", new NailThreads().judge(1, 7000), NONE);
        c.due("four, and 04", judged("NT0agT0dj", 1, 7004), NONE);
        c.due("four, and 05", judged("NT0agT0dj", 1, 7005), 0);
        c.due("7100", judged("NT0agT0dj", 1, 7100), 0);
        c.due("7104", judged("NT0agT0dj", 1, 7104), 0);
    }

    @Says(words = "7, 0, two figures: there are so many PARTS or more")
    static void judged99Parts(Checks c) {
        // A star of twelve: 1 + 12 + 48; g-a b-h c-i each cross 8 of it, and each other: + 9 + 10 + 11.
        NailThreads x = Checks.boardOf("NT0aT0gaT0bhT0ci");
        for (int i = 1; i <= 12; i++) {
            x.wind(0, 5 * i % 12);
        }
        c.due("91", x.parts(), 91);
        x.wind(1, 3);
        c.due("a-d crosses 4 of it, b-h and c-i: 98", x.judge(1, 7098), NONE);
        c.due("98 are not 99", x.judge(1, 7099), 0);
        x.wind(1, 4);
        c.due("d-e crosses none: 99", x.judge(1, 7099), NONE);
        c.due("threads 9 and 9 are not parts", x.judge(1, 6993), 0);
    }
}
