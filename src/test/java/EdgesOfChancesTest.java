import java.io.IOException;
import java.math.BigInteger;

/** Terms, the third part: an edge of what is seen, of shares, rests, snapping, years and slots in each test. */
public final class EdgesOfChancesTest {
    private static final int UNKNOWN = -1, STATE = -3, FULL = -4, NONE = -9;
    /** a-g, d-j, b-h and l-f: each two of the four cross, so six; each thread lies over those ahead of it. */
    private static final String FOUR = "NT0agT0djT0bhT0lf";

    public static void main(String[] args) throws IOException {
        Edges.run(EdgesOfChancesTest.class);
    }

    // ---- seen, stars

    private static NailThreads seen(int... told) {
        NailThreads x = new NailThreads();
        for (int i = 0; i + 2 < told.length; i += 3) {
            x.see(told[i], told[i + 1], told[i + 2]);
        }
        return x;
    }

    @Says(words = "when it was WOUND t (0 to 12) times")
    static void seenAheadOfAllWinding(Checks c) {
        c.due("at d", seen(0, 3, 1).stars(0), 11);
        c.due("at d, the first", seen(0, 3, 1).stars(1), 301);
        c.due("not at d", seen(0, 3, 0).stars(0), 121);
    }

    @Says(words = "when it was WOUND t (0 to 12) times")
    static void seenAfterTwelveTimes(Checks c) {
        c.due("back at d, by whatever k", seen(12, 3, 1).stars(0), 11);
        c.due("so d is where it was tied", seen(12, 3, 1).stars(1), 301);
        c.due("at d after 11: from a by 9", seen(11, 3, 1).stars(1), 9);
    }

    @Says(words = "was at a NAIL (1), or was not (0)")
    static void wasAndWasNot(Checks c) {
        c.due("was", seen(0, 0, 1, 1, 5, 1).stars(0), 1);
        c.due("was not", seen(0, 0, 1, 1, 5, 0).stars(0), 10);
    }

    @Says(words = "tied to a NAIL, k (1 to 11) NAILS on each time")
    static void noStarStaysWhereItIs(Checks c) {
        c.due("by k 0 or 12", seen(0, 0, 1, 1, 0, 1).stars(0), 0);
        c.due("by k 0 or 12, the first", seen(0, 0, 1, 1, 0, 1).stars(1), NONE);
        c.due("by all others", seen(0, 0, 1, 1, 0, 0).stars(0), 11);
    }

    @Says(words = "tied to a NAIL, k (1 to 11) NAILS on each time")
    static void starsGoRoundTheEndOfTheRing(Checks c) {
        c.due("l, 1 on", seen(0, 11, 1, 1, 0, 1).stars(1), 1101);
        c.due("a, 11 on", seen(0, 0, 1, 1, 11, 1).stars(1), 11);
        c.due("l, 11 on, 12 times", seen(0, 11, 1, 1, 10, 1, 12, 11, 1).stars(1), 1111);
    }

    @Says(words = "6 such at most, none at first.")
    static void sixAreSeenAtMost(Checks c) {
        NailThreads x = new NailThreads();
        for (int i = 1; i <= 6; i++) {
            c.due("see", x.see(0, i, 0), i);
        }
        c.due("the 7th", x.see(0, 7, 0), FULL);
        c.due("six nails are out", x.stars(0), 66);
    }

    @Says(words = "6 such at most, none at first.")
    static void atFirstNothingIsSeen(Checks c) {
        NailThreads x = new NailThreads();
        c.due("count", x.count(7), 0);
        c.due("unsee", x.unsee(), 0);
        c.due("stars", x.stars(0), 132);
    }

    @Says(words = "how many (132 there are); the first (100 times the NAIL, and k); NONE.")
    static void thereAre132Stars(Checks c) {
        c.due("how many", new NailThreads().stars(0), 132);
        c.due("the first of all", new NailThreads().stars(1), 1);
        c.due("the last of all", seen(0, 11, 1, 1, 10, 1).stars(1), 1111);
    }

    @Says(words = "how many (132 there are); the first (100 times the NAIL, and k); NONE.")
    static void noStarIsLeft(Checks c) {
        c.due("how many", seen(0, 0, 1, 0, 0, 0).stars(0), 0);
        c.due("the first", seen(0, 0, 1, 0, 0, 0).stars(1), NONE);
        c.due("two nails at once", seen(3, 0, 1, 3, 1, 1).stars(1), NONE);
    }

    // ---- share

    @Says(words = "STRETCHES of those that have come CROSS more (each two once) when it has come than they did")
    static void theShareOfTheOnlyThread(Checks c) {
        c.due("its own", Checks.boardOf("NT0agdj").share(0, true), 1);
        c.due("its own, by", Checks.boardOf("NT0agdj").share(0, false), 1);
        c.due("none", Checks.boardOf("NT0ag").share(0, true), 0);
    }

    @Says(words = "STRETCHES of those that have come CROSS more (each two once) when it has come than they did")
    static void theShareOfOneWithoutStretches(Checks c) {
        c.due("none", Checks.boardOf("NT0agT0djT0b").share(2, true), 0);
        c.due("none, by", Checks.boardOf("NT0agT0djT0b").share(2, false), 1);
    }

    @Says(words = "in each order as likely")
    static void theShareIsHalfOfWhatTwoCross(Checks c) {
        c.due("1", Checks.boardOf("NT0agT0dj").share(0, true), 1);
        c.due("by 2", Checks.boardOf("NT0agT0dj").share(1, false), 2);
        c.due("3", Checks.boardOf(FOUR).share(3, true), 3);
        c.due("3 by 2", Checks.boardOf(FOUR).share(0, false), 2);
    }

    @Says(words = "in each order as likely")
    static void theShareOnAFullBoard(Checks c) {
        NailThreads x = Checks.boardOf("NT0aT0dT0aT0d");
        for (int t = 0; t < 4; t++) {
            Checks.windToAndFro(x, t, t % 2 == 0 ? 6 : 9, t % 2 == 0 ? 0 : 3, 12);
        }
        c.due("half of twice 144", x.share(3, true), 144);
        c.due("whole", x.share(3, false), 1);
    }

    // ---- rests

    private static void rest(Checks c, String text, int many, int first) {
        NailThreads x = Checks.boardOf(text);
        c.due(text + ", how many", x.rests(0, 1, 0), many);
        c.due(text + ", the first", x.rests(0, 1, 1), first);
    }

    @Says(words = "each is WOUND to the NAIL 5 on (1), if it may, or is not (0)")
    static void oneThatMayNotHasTwoLikeChoices(Checks c) {
        NailThreads x = Checks.boardOf("NT0ababababaT0d");
        Checks.windToAndFro(x, 0, 1, 0, 4);
        c.due("with 12: either, and the other stays", x.rests(0, 1, 0), 2);
        c.due("with 12: the first", x.rests(0, 1, 1), 0);
        c.due("neither may", Checks.boardOf("NT3agagaT3agaga").rests(0, 1, 0), 4);
    }

    @Says(words = "each is WOUND to the NAIL 5 on (1), if it may, or is not (0)")
    static void fiveOnGoesRoundTheEndOfTheRing(Checks c) {
        // k-d crosses a-g four times: 12 - 3.
        rest(c, "NT0kT0kT0agaga", 1, 11);
    }

    @Says(words = "3 times as many as STRETCHES that CROSS its last one then (0, if it has none)")
    static void oneWithoutStretchesHasNothing(Checks c) {
        // Alone a-f and d-i have -3; both cross each other: 3 - 3 is no less than 0.
        rest(c, "NT0aT0d", 2, 0);
        // g-l and g-l, by either, cross nothing: -3 is less than 0.
        rest(c, "NT0gT0g", 1, 0);
    }

    @Says(words = "less as many as that is LONG by 5 (cut)")
    static void theLengthByFiveIsCut(Checks c) {
        // a-e is LONG by 17, e-j by 19: each brings -3; the other would bring -3 and stays.
        rest(c, "NT0aeT0e", 2, 0);
        // a-d by 14 brings -2.
        rest(c, "NT0adT0d", 1, 0);
    }

    @Says(words = "pairs in which neither has more by another choice alone")
    static void asMuchIsNotMore(Checks c) {
        // a-f or l-e crosses d-j: 3 - 3; both cross each other too: 6 - 3.
        rest(c, "NT0aT0lT0dj", 2, 0);
    }

    @Says(words = "how many; the first (10 times the one and the other); NONE.")
    static void theFirstPairAtRest(Checks c) {
        // e-j crosses c-g four times; j-c crosses none.
        rest(c, "NT0jT0eT0cgcgc", 1, 1);
        rest(c, "NT0eT0jT0cgcgc", 1, 10);
        rest(c, "NT0eT0eT0cgcgc", 1, 11);
        rest(c, "NT0jT0jT0cgcgc", 1, 0);
    }

    @Says(words = "how many; the first (10 times the one and the other); NONE.")
    static void somePairIsAlwaysAtRest(Checks c) {
        // What one gains if both wind, the other gains too: so they never chase each other round, and NONE never comes.
        for (int first = 1; first <= 11; first++) {
            for (int from = 0; from <= 11; from++) {
                for (int on = 1; on <= 11; on++) {
                    String text = "NT0a" + (char) ('a' + first) + "T0" + (char) ('a' + from)
                        + (char) ('a' + (from + on) % 12);
                    NailThreads x = Checks.boardOf(text);
                    int told = x.rests(0, 1, 1);
                    c.holds(text + ", how many", x.rests(0, 1, 0) >= 1 && x.rests(0, 1, 0) <= 4);
                    c.holds(text + ", the first", told == 0 || told == 1 || told == 10 || told == 11);
                }
            }
        }
    }

    @Says(words = "3 times as many as STRETCHES that CROSS its last one then (0, if it has none)")
    static void theLastWoundCountsFromBehindToo(Checks c) {
        // From behind a-l lies over l-g, which was wound last and brings -3; a-l would bring -1.
        NailThreads x = Checks.boardOf("NT0abgT0l");
        x.behind();
        c.due("l-g or g-l brings -3, the other stays", x.rests(0, 1, 0), 2);
    }

    // ---- snaps

    private static void snap(Checks c, NailThreads x, int[] asked, int above, int below) {
        c.due("v " + asked[0] + ", x " + asked[1], x.snaps(asked[0], asked[1], true), above);
        c.due("v " + asked[0] + ", x " + asked[1] + ", by", x.snaps(asked[0], asked[1], false), below);
    }

    @Says(words = "each THREAD is CUT by x tenths (0 to 10)")
    static void noneIsCutByNoTenths(Checks c) {
        snap(c, Checks.boardOf(FOUR), new int[] {6, 0}, 1, 1);
        snap(c, Checks.boardOf(FOUR), new int[] {7, 0}, 0, 1);
    }

    @Says(words = "each THREAD is CUT by x tenths (0 to 10)")
    static void allAreCutByTenTenths(Checks c) {
        snap(c, Checks.boardOf(FOUR), new int[] {0, 10}, 1, 1);
        snap(c, Checks.boardOf(FOUR), new int[] {1, 10}, 0, 1);
    }

    @Says(words = "that v (0 to 99) times or more STRETCHES CROSS then: a FRACTION.")
    static void noneOrMoreCrossSurely(Checks c) {
        snap(c, Checks.boardOf(FOUR), new int[] {0, 3}, 1, 1);
        snap(c, new NailThreads(), new int[] {0, 3}, 1, 1);
        snap(c, new NailThreads(), new int[] {1, 3}, 0, 1);
    }

    @Says(words = "that v (0 to 99) times or more STRETCHES CROSS then: a FRACTION.")
    static void as99TimesOrMore(Checks c) {
        NailThreads x = Checks.boardOf("NT0aT0d");
        Checks.windToAndFro(x, 0, 6, 0, 9);
        Checks.windToAndFro(x, 1, 9, 3, 10);
        snap(c, x, new int[] {99, 0}, 0, 1);
        snap(c, x, new int[] {90, 5}, 1, 4);
        x.wind(1, 9);
        c.due("nine by eleven", x.count(3), 99);
        snap(c, x, new int[] {99, 0}, 1, 1);
        snap(c, x, new int[] {99, 5}, 1, 4);
    }

    @Says(words = "each THREAD is CUT by x tenths (0 to 10), by itself")
    static void eachThreadIsCutByItself(Checks c) {
        // Of four, of which each two cross: 1 or more if two or more are left.
        snap(c, Checks.boardOf(FOUR), new int[] {6, 1}, 6561, 10000);
        snap(c, Checks.boardOf(FOUR), new int[] {3, 5}, 5, 16);
        snap(c, Checks.boardOf(FOUR), new int[] {1, 5}, 11, 16);
        snap(c, Checks.boardOf("NT0agdj"), new int[] {1, 1}, 9, 10);
    }

    // ---- years

    private static long drawn(long x) {
        BigInteger next = BigInteger.valueOf(x).multiply(new BigInteger("6364136223846793005"))
            .add(new BigInteger("1442695040888963407"));
        return next.longValue();
    }

    private static int left(long x) {
        BigInteger bits = BigInteger.valueOf(x).mod(BigInteger.ONE.shiftLeft(64)).shiftRight(33);
        return bits.mod(BigInteger.valueOf(60)).intValue();
    }

    /** The first seed from that one on, from which just these numbers are left, year by year. */
    private static long seedFrom(long from, int... draws) {
        for (long s = from; s < from + 1000000; s++) {
            long x = drawn(s);
            int i = 0;
            while (i < draws.length && left(x) == draws[i]) {
                x = drawn(x);
                i++;
            }
            if (i == draws.length) {
                return s;
            }
        }
        throw new IllegalStateException("no such seed");
    }

    private static int yearsOn(NailThreads x, int... draws) {
        x.seed(seedFrom(0, draws));
        return x.years(draws.length);
    }

    @Says(words = "YEARS by THE SEED: m times (1 to 30)")
    static void oneYear(Checks c) {
        NailThreads x = Checks.boardOf(FOUR);
        x.seed(5);
        x.years(1);
        c.due("one step", x.seed(0), drawn(5));
    }

    @Says(words = "YEARS by THE SEED: m times (1 to 30)")
    static void thirtyYears(Checks c) {
        NailThreads x = Checks.boardOf(FOUR);
        long seed = 5;
        for (int i = 0; i < 30; i++) {
            seed = drawn(seed);
        }
        x.seed(5);
        c.holds("thirty", x.years(30) >= 0);
        c.due("thirty steps", x.seed(0), seed);
    }

    @Says(words = "x (THE SEED, a long; 0 at first)")
    static void theSeedIs0AtFirst(Checks c) {
        NailThreads x = new NailThreads();
        x.years(1);
        c.due("one step from 0", x.seed(0), 1442695040888963407L);
    }

    @Says(words = "becomes x times 6364136223846793005 and 1442695040888963407 (64 bits, wrapping)")
    static void theSeedWraps(Checks c) {
        long[] seeds = {1, -1, Long.MAX_VALUE, Long.MIN_VALUE, 1442695040888963407L};
        for (long seed : seeds) {
            NailThreads x = new NailThreads();
            x.seed(seed);
            x.years(1);
            c.due("from " + seed, x.seed(0), drawn(seed));
        }
    }

    @Says(words = "its upper 31 bits by 60, what is left")
    static void theUpper31BitsAreNeverBelow0(Checks c) {
        int[] signs = new int[2];
        long seed = 0;
        for (int i = 0; i < 20; i++) {
            seed = seedFrom(seed + 1, 51);
            NailThreads x = Checks.boardOf(FOUR);
            x.seed(seed);
            c.due("51 from " + seed, x.years(1), 3);
            signs[drawn(seed) < 0 ? 1 : 0]++;
        }
        c.holds("of both signs", signs[0] > 0 && signs[1] > 0);
    }

    @Says(words = "0 to 47 that by 12 (cut) is a THREAD that is WOUND to the NAIL that is left by 12")
    static void yearsThatWind(Checks c) {
        c.due("0: g to a", yearsOn(Checks.boardOf(FOUR), 0), 6 + 3);
        c.due("11: g to l, over d-j and b-h", yearsOn(Checks.boardOf(FOUR), 11), 6 + 2);
        c.due("12: j to a, over l-f", yearsOn(Checks.boardOf(FOUR), 12), 6 + 1);
        c.due("23: j to l", yearsOn(Checks.boardOf(FOUR), 23), 6);
        c.due("47: f to l", yearsOn(Checks.boardOf(FOUR), 47), 6 + 3);
    }

    @Says(words = "48 to 51 that less 48 THREAD is UNWOUND")
    static void yearsThatUnwind(Checks c) {
        NailThreads x = Checks.boardOf("NT0aT0dj");
        x.wind(0, 6);
        c.due("48: a-g over d-j", yearsOn(x, 48), 0);
        c.due("51: l-f", yearsOn(Checks.boardOf(FOUR), 51), 3);
    }

    @Says(words = "52 and 53 that less 52 THREAD is CUT")
    static void yearsThatCut(Checks c) {
        // d-j twice, each crosses a-g and c-e: 4.
        c.due("52: c-e crosses still", yearsOn(Checks.boardOf("NT0agT0djdT0ce"), 52), 2);
        c.due("53: none crosses", yearsOn(Checks.boardOf("NT0agT0djdT0ce"), 53), 0);
        c.due("52: under all", yearsOn(Checks.boardOf(FOUR), 52), 3);
        c.due("52 52: none is left the second time", yearsOn(Checks.boardOf(FOUR), 52, 52), 3 + 3);
    }

    @Says(words = "each if it can be")
    static void yearsInWhichItCanNotBe(Checks c) {
        c.due("6: is there", yearsOn(Checks.boardOf(FOUR), 6), 6);
        c.due("48: held", yearsOn(Checks.boardOf(FOUR), 48), 6);
        c.due("36: no such thread", yearsOn(Checks.boardOf("NT0agdj"), 36), 1);
        c.due("51: no such thread", yearsOn(Checks.boardOf("NT0agdj"), 51), 1);
        c.due("53: no such thread", yearsOn(Checks.boardOf("NT0agdj"), 53), 1);
        c.due("49: none to unwind", yearsOn(Checks.boardOf("NT0agdjT0a"), 49), 1);
        c.due("53: none to cut", yearsOn(Checks.boardOf("NT0agdjT0a"), 53), 1);
        // From j it would cross k-f on its way to c.
        c.due("9, then 2: stiff, not to the nail beside", yearsOn(Checks.boardOf("NT1kT0kf"), 9, 2), 0);
        c.due("no threads", new NailThreads().years(30), 0);
    }

    @Says(words = "54 to 56 TURNED, 57 and more BEHIND")
    static void yearsThatTurn(Checks c) {
        // Turned: d-j, crossed by b-i, not by b-j. As it was: c-i, by neither a-i nor a-j.
        for (int drawn : new int[] {54, 55, 56}) {
            c.due(drawn + ", then to i", yearsOn(Checks.boardOf("NT0aT0ci"), drawn, 8), 1);
            c.due(drawn + ", then to j", yearsOn(Checks.boardOf("NT0aT0ci"), drawn, 9), 0);
        }
    }

    @Says(words = "54 to 56 TURNED, 57 and more BEHIND")
    static void yearsSeenFromBehind(Checks c) {
        // From behind: k-e, crossed by a-i and a-j.
        for (int drawn : new int[] {57, 58, 59}) {
            c.due(drawn + ", then to i", yearsOn(Checks.boardOf("NT0aT0ci"), drawn, 8), 1);
            c.due(drawn + ", then to j", yearsOn(Checks.boardOf("NT0aT0ci"), drawn, 9), 1);
        }
    }

    @Says(words = "how many times STRETCHES CROSS, each time, together.")
    static void yearsAddUp(Checks c) {
        c.due("twice turned", yearsOn(Checks.boardOf(FOUR), 54, 54), 6 + 6);
        c.due("wound, then unwound", yearsOn(Checks.boardOf(FOUR), 47, 51), 9 + 6);
    }

    @Says(words = "(Nothing changes but THE SEED.)")
    static void yearsChangeNothingButTheSeed(Checks c) {
        NailThreads x = Checks.boardOf("NT0agT1djT2b");
        NailThreads y = Checks.boardOf("NT0agT1djT2b");
        x.turn();
        y.turn();
        x.keep(1);
        y.keep(1);
        x.seed(7);
        x.years(30);
        c.holds("the seed is another", x.seed(0) != 7);
        c.same("all else", Picture.toTheEnd(x), Picture.toTheEnd(y));
    }

    @Says(words = "(Nothing changes but THE SEED.)")
    static void eachCallOfYearsBeginsAtTheBoard(Checks c) {
        NailThreads x = Checks.boardOf(FOUR);
        c.due("cut", yearsOn(x, 52), 3);
        c.due("not cut", yearsOn(x, 54), 6);
    }

    // ---- slots

    @Says(words = "SLOTS 0 to 1 keep THREADS and STRETCHES as they lie")
    static void bothSlotsKeepByThemselves(Checks c) {
        NailThreads x = Checks.boardOf("NT0agT2djT0b");
        x.keep(0);
        x.behind();
        x.keep(1);
        x.cut(1);
        c.due("the first", x.again(0), 2);
        c.due("as it lay", x.stretch(0, 0), 0);
        c.due("its kinds", x.thread(1, 1), 2);
        c.due("its nails", x.thread(2, 0), 1);
        c.due("the last", x.again(1), 2);
        c.due("from behind", x.stretch(0, 0), 1);
        c.due("its nails from behind", x.thread(2, 0), 11);
        c.due("slot -1", x.keep(-1), UNKNOWN);
        c.due("slot 2", x.keep(2), UNKNOWN);
    }

    @Says(words = "(THE ROW of ACTS is empty when one goes on).")
    static void theRowIsEmptyWhenOneGoesOn(Checks c) {
        NailThreads x = Checks.boardOf("NT0ag");
        x.turn();
        x.keep(0);
        c.due("keeping is no act, and leaves the row", x.count(6), 1);
        x.turn();
        x.again(0);
        c.due("acts", x.count(6), 0);
        c.due("none to undo", x.undo(), STATE);
    }
}
