/** Each promise by itself: ordinary inputs, the edges that the document names, wrong inputs; worked out by hand. */
public final class PromisesTest {
    private static final int UNKNOWN = -1, OUTSIDE = -2, STATE = -3, FULL = -4, NONE = -9;
    private static final int LEAST = Integer.MIN_VALUE, MOST = Integer.MAX_VALUE;
    private static final Checks CHECKS = new Checks();

    public static void main(String[] args) {
        newObject();
        writeAndWipe();
        fault();
        board();
        threadNumbers();
        threadNailsOpen();
        stretch();
        wind();
        windByKind();
        unwind();
        cut();
        turn();
        behind();
        undo();
        crossings();
        parts();
        strokes();
        next();
        star();
        judge();
        judgeWrong();
        seeAndUnsee();
        stars();
        share();
        rests();
        snaps();
        seedAndYears();
        yearsEachDoing();
        keepAndAgain();
        count();
        refusedChangesNothing();
        CHECKS.end();
    }

    private static void due(String call, long got, long want) {
        CHECKS.due(call, got, want);
    }

    private static void newObject() {
        NailThreads x = new NailThreads();
        for (int what = 0; what < 8; what++) {
            due("1: count " + what, x.count(what), 0);
        }
        due("1: thread", x.thread(0, 0), UNKNOWN);
        due("1: stretch", x.stretch(0, 0), UNKNOWN);
        due("1: fault", x.fault(), 0);
        due("1: seed", x.seed(1), 0);
        due("1: keeps nothing", x.again(0), STATE);
        due("1: parts", x.parts(), 1);
    }

    private static void writeAndWipe() {
        NailThreads x = new NailThreads();
        due("2: below", x.write(-1), OUTSIDE);
        due("2: beyond", x.write(256), OUTSIDE);
        due("2: least", x.write(LEAST), OUTSIDE);
        due("2: most", x.write(MOST), OUTSIDE);
        due("2: 0", x.write(0), 1);
        due("2: 255", x.write(255), 2);
        for (int i = 3; i <= 48; i++) {
            due("2: letter " + i, x.write('N'), i);
        }
        due("2: the 49th", x.write('N'), FULL);
        due("2: OUTSIDE is told ahead of FULL", x.write(256), OUTSIDE);
        due("2: count", x.count(0), 48);
        due("3: wipe", x.wipe(), 48);
        due("3: wipe empty", x.wipe(), 0);
        due("3: count", x.count(0), 0);
        due("3: write anew", x.write('N'), 1);
        due("3: the new text", x.fault(), NONE);
    }

    private static void fault() {
        faultOf("", 0);
        faultOf("n", 0);
        faultOf("T", 0);
        faultOf("N", NONE);
        faultOf("NN", 1);
        faultOf("Na", 1);
        faultOf("NT", 2);
        faultOf("NTT", 2);
        faultOf("NT4", 2);
        faultOf("NT/", 2);
        faultOf("NT0", 3);
        faultOf("NT0T", 3);
        faultOf("NT00", 3);
        faultOf("NT0`", 3);
        faultOf("NT0m", 3);
        faultOf("NT0a", NONE);
        faultOf("NT0l", NONE);
        faultOf("NT0aa", 4);
        faultOf("NT0ab0", 5);
        faultOf("NT0abN", 5);
        faultOf("NT0abm", 5);
        faultOf("NT1al", 4);
        faultOf("NT1acegikacT", 12);
        faultOf("NT0ababababa", NONE);
        faultOf("NT0abababababT0a", 12);
        faultOf("NT2agbT", 7);
        faultOf("NT2agdj", 6);
        faultOf("NT2agaT2djT0agdj", NONE);
        faultOf("NT3agagag", 8);
        faultOf("NT3agagT3agaga", NONE);
        faultOf("NT3ab", 4);
        // 17 17 17 20 10: by 1 too long
        faultOf("NT3aeiage", 8);
        faultOf("NT3aeiagd", 8);
        faultOf("NT0aT1bT2cT3d", NONE);
        faultOf("NT0aT1bT2cT3dT", 13);
        faultOf("NT0abababababT", 12);
        faultOf("NT0ababababaT1acacacacaT2ababababaT3acacaca", NONE);
    }

    private static void faultOf(String text, int want) {
        NailThreads x = new NailThreads();
        Checks.tell(x, text);
        due("4: fault of " + text, x.fault(), want);
        due("4: told twice, of " + text, x.fault(), want);
        due("5: board of " + text, x.board() == STATE ? 1 : 0, want == NONE ? 0 : 1);
    }

    private static void board() {
        NailThreads x = Checks.boardOf("NT0adT1bf");
        x.turn();
        x.keep(0);
        x.keep(1);
        x.see(1, 2, 1);
        x.seed(77);
        Checks.tell(x, "NT0adX");
        due("5: a fault", x.board(), STATE);
        due("5: the old one stays", x.count(1), 2);
        due("5: its acts too", x.count(6), 1);
        due("5: what was kept too", x.again(1), 2);
        x.turn();
        Checks.tell(x, "NT2cT3eiT0a");
        due("5: board", x.board(), 3);
        due("5: stretches", x.count(2), 1);
        due("5: the text stays", x.count(0), 11);
        due("5: no acts", x.count(6), 0);
        due("5: none to undo", x.undo(), STATE);
        due("5: slot 0 gone", x.again(0), STATE);
        due("5: slot 1 gone", x.again(1), STATE);
        due("5: seen stays", x.count(7), 1);
        due("5: kind", x.thread(1, 1), 3);
        due("5: seed stays", x.seed(0), 77);
        Checks.tell(x, "N");
        due("5: no threads", x.board(), 0);
        due("5: none of the old", x.thread(0, 0), UNKNOWN);
    }

    private static void threadNumbers() {
        NailThreads x = Checks.boardOf("NT0abdgkdjT1bfT2kceT3l");
        int[] kinds = {0, 1, 2, 3};
        int[] nails = {9, 5, 4, 11};
        int[] counts = {6, 1, 2, 0};
        // 1, 2, 3, 4, 5 and 6 apart: 5 10 14 17 19 20; 4: 17; 4 and 2: 17 10
        int[] lengths = {85, 17, 27, 0};
        for (int t = 0; t < 4; t++) {
            due("6: nail of " + t, x.thread(t, 0), nails[t]);
            due("6: kind of " + t, x.thread(t, 1), kinds[t]);
            due("6: stretches of " + t, x.thread(t, 2), counts[t]);
            due("6: length of " + t, x.thread(t, 3), lengths[t]);
        }
        due("6: b-f lies over d-j, its last", x.thread(0, 5), 0);
        due("6: uppermost", x.thread(2, 5), 1);
        due("6: none to unwind", x.thread(3, 5), 0);
        due("6: below", x.thread(-1, 0), UNKNOWN);
        due("6: beyond", x.thread(4, 0), UNKNOWN);
        due("6: UNKNOWN ahead of OUTSIDE", x.thread(MOST, 9), UNKNOWN);
        due("6: what below", x.thread(0, -1), OUTSIDE);
        due("6: what beyond", x.thread(0, 6), OUTSIDE);
        due("6: what most", x.thread(0, MOST), OUTSIDE);
    }

    private static void threadNailsOpen() {
        NailThreads x = Checks.boardOf("NT0aT1lT2agdT3agaga");
        due("6: plain, all but a", x.thread(0, 4), 4095 - 1);
        due("6: stiff, not k l a", x.thread(1, 4), 4095 - 1024 - 2048 - 1);
        due("6: gut at d, within a-g and its ends", x.thread(2, 4), 1 + 2 + 4 + 16 + 32 + 64);
        due("6: elastic, 80 are used", x.thread(3, 4), 0);
        x = Checks.boardOf("NT3agadT3agagcT0aeaeaeaea");
        due("6: elastic at d, 54 used: 26 left, not c d e", x.thread(0, 4), 4095 - 4 - 8 - 16);
        due("6: elastic at c, 77 used", x.thread(1, 4), 0);
        for (int i = 0; i < 4; i++) {
            x.wind(2, i % 2 == 0 ? 1 : 0);
        }
        due("6: plain with 12", x.thread(2, 4), 0);
        due("8: a 13th", x.wind(2, 1), STATE);
        due("6: has 12", x.thread(2, 2), 12);
        x = Checks.boardOf("NT3agagc");
        x.unwind(0);
        due("6: elastic at g, 60 left 20, not f g h", x.thread(0, 4), 4095 - 32 - 64 - 128);
        x = Checks.boardOf("NT3ageg");
        due("6: elastic at g, 40 left", x.thread(0, 4), 4095 - 32 - 64 - 128);
        x = Checks.boardOf("NT3agagd");
        due("6: elastic at d, 74 left 6", x.thread(0, 4), 0);
        x = Checks.boardOf("NT3acegikac");
        due("6: elastic at c, 70: only by 2", x.thread(0, 4), 1 + 16);
    }

    private static void stretch() {
        NailThreads x = Checks.boardOf("NT0agdjT1bfT2kce");
        int[][] rows = {{0, 0, 6}, {0, 6, 3}, {0, 3, 9}, {1, 1, 5}, {2, 10, 2}, {2, 2, 4}};
        for (int s = 0; s < rows.length; s++) {
            due("7: thread of " + s, x.stretch(s, 0), rows[s][0]);
            due("7: from of " + s, x.stretch(s, 1), rows[s][1]);
            due("7: to of " + s, x.stretch(s, 2), rows[s][2]);
        }
        due("7: a-g is crossed by d-j and k-c", x.stretch(0, 3), 2);
        due("7: both over it", x.stretch(0, 4), 2);
        due("7: above a-g: d-j k-c, over d-j: b-f c-e", x.stretch(0, 5), 4);
        due("7: g-d is crossed by b-f c-e", x.stretch(1, 3), 2);
        due("7: above g-d: b-f c-e, over b-f: k-c", x.stretch(1, 5), 3);
        due("7: d-j is crossed by a-g b-f c-e", x.stretch(2, 3), 3);
        due("7: over d-j: b-f c-e", x.stretch(2, 4), 2);
        due("7: above d-j: b-f c-e k-c", x.stretch(2, 5), 3);
        due("7: k-c is crossed by a-g b-f", x.stretch(4, 3), 2);
        due("7: nothing over k-c", x.stretch(4, 4), 0);
        due("7: nothing above", x.stretch(5, 5), 0);
        due("7: below", x.stretch(-1, 0), UNKNOWN);
        due("7: beyond", x.stretch(6, 0), UNKNOWN);
        due("7: UNKNOWN ahead of OUTSIDE", x.stretch(6, 6), UNKNOWN);
        due("7: what below", x.stretch(0, -1), OUTSIDE);
        due("7: what beyond", x.stretch(0, 6), OUTSIDE);
        due("7: what least", x.stretch(0, LEAST), OUTSIDE);
    }

    private static void wind() {
        NailThreads x = Checks.boardOf("NT0agT0d");
        due("8: crosses one", x.wind(1, 9), 1);
        due("8: lies uppermost", x.stretch(1, 0), 1);
        due("8: from", x.stretch(1, 1), 3);
        due("8: to", x.stretch(1, 2), 9);
        due("8: is there", x.thread(1, 0), 9);
        due("8: an end in common does not cross", x.wind(1, 6), 0);
        due("8: to the nail beside", x.wind(1, 7), 0);
        due("8: an act each", x.count(6), 3);
        due("8: at that nail", x.wind(1, 7), STATE);
        due("8: nail below", x.wind(1, -1), UNKNOWN);
        due("8: nail beyond", x.wind(1, 12), UNKNOWN);
        due("8: thread below", x.wind(-1, 1), UNKNOWN);
        due("8: thread beyond", x.wind(2, 1), UNKNOWN);
        due("8: most", x.wind(MOST, LEAST), UNKNOWN);
        due("8: refused is no act", x.count(6), 3);
        due("8: to b, over a-g, d-j and j-g, not g-h", x.wind(1, 1), 3);
    }

    private static void windByKind() {
        NailThreads x = Checks.boardOf("NT1aT2agdT3a");
        due("8: stiff beside", x.wind(0, 1), STATE);
        due("8: stiff beside, other way", x.wind(0, 11), STATE);
        due("8: stiff two on", x.wind(0, 2), 0);
        due("8: gut over itself", x.wind(1, 8), STATE);
        due("8: gut to its own nail", x.wind(1, 0), 0);
        due("8: gut back along itself", x.wind(1, 6), 0);
        due("8: elastic beside", x.wind(2, 11), STATE);
        for (int i = 0; i < 4; i++) {
            due("8: elastic " + i, x.wind(2, i % 2 == 0 ? 6 : 0) >= 0 ? 1 : 0, 1);
        }
        due("8: elastic has 80", x.thread(2, 3), 80);
        due("8: elastic beyond 80", x.wind(2, 2), STATE);
        due("8: elastic cut", x.cut(2), 4);
        due("8: elastic reaches again", x.wind(2, 6) >= 0 ? 1 : 0, 1);
        x = Checks.boardOf("NT1acacacaca");
        for (int i = 0; i < 4; i++) {
            x.wind(0, i % 2 == 0 ? 2 : 0);
        }
        due("8: stiff with 12", x.wind(0, 2), STATE);
        x = Checks.boardOf("NT2ababababa");
        for (int i = 0; i < 4; i++) {
            x.wind(0, i % 2 == 0 ? 1 : 0);
        }
        due("8: gut with 12", x.wind(0, 1), STATE);
        due("8: gut with 12 may not", x.thread(0, 4), 0);
    }

    private static void unwind() {
        NailThreads x = Checks.boardOf("NT0agT0djT0bc");
        due("9: one lies over", x.unwind(0), STATE);
        due("9: back to where it came from", x.unwind(1), 3);
        due("9: none left", x.unwind(1), STATE);
        due("9: now free", x.unwind(0), 0);
        due("9: the rest lies lower", x.stretch(0, 0), 2);
        due("9: one is left", x.count(2), 1);
        due("9: acts", x.count(6), 2);
        due("9: below", x.unwind(-1), UNKNOWN);
        due("9: beyond", x.unwind(3), UNKNOWN);
        x = Checks.boardOf("NT0agajT0bd");
        x.behind();
        // from behind a-j is undermost, a-g twice over it; it is still the last of its thread
        due("9: the last wound, though undermost", x.unwind(0), 0);
        due("9: then the one ahead of it", x.unwind(0), 6);
        due("9: then the first", x.unwind(0), 0);
        due("9: crossings are gone", x.count(3), 0);
        x = Checks.boardOf("NT0agdj");
        due("9: own stretches hold it too, from behind", x.behind(), 3);
        due("9: a-g lies over d-j", x.unwind(0), STATE);
    }

    private static void cut() {
        NailThreads x = Checks.boardOf("NT0agdT0djT0cif");
        due("10: cut under others", x.cut(0), 2);
        due("10: tied where it is", x.thread(0, 0), 3);
        due("10: has none", x.thread(0, 2), 0);
        due("10: no length", x.thread(0, 3), 0);
        due("10: the others lie on", x.stretch(0, 0), 1);
        due("10: in their order", x.stretch(2, 0), 2);
        due("10: d-j and c-i cross still", x.count(3), 1);
        due("10: none to cut", x.cut(0), STATE);
        due("10: wound from there over c-i", x.wind(0, 9), 1);
        due("10: uppermost", x.stretch(3, 0), 0);
        due("10: unwound back to there", x.unwind(0), 3);
        due("10: below", x.cut(-1), UNKNOWN);
        due("10: beyond", x.cut(3), UNKNOWN);
        due("10: acts", x.count(6), 3);
    }

    private static void turn() {
        NailThreads x = Checks.boardOf("NT0lgT0d");
        due("11: turn", x.turn(), 1);
        due("11: l becomes a", x.stretch(0, 1), 0);
        due("11: g becomes h", x.stretch(0, 2), 7);
        due("11: at h", x.thread(0, 0), 7);
        due("11: tied to e", x.thread(1, 0), 4);
        due("11: an act", x.count(6), 1);
        due("11: of none", new NailThreads().turn(), 0);
    }

    private static void behind() {
        NailThreads x = Checks.boardOf("NT0abT0dgkT0g");
        due("12: behind", x.behind(), 3);
        due("12: uppermost is undermost, from", x.stretch(0, 1), 6);
        due("12: k is c", x.stretch(0, 2), 2);
        due("12: d is j", x.stretch(1, 1), 9);
        due("12: a stays", x.stretch(2, 1), 0);
        due("12: b is l", x.stretch(2, 2), 11);
        due("12: at l", x.thread(0, 0), 11);
        due("12: at c", x.thread(1, 0), 2);
        due("12: g stays", x.thread(2, 0), 6);
        due("12: a new one lies over all", x.wind(2, 7), 0);
        due("12: uppermost", x.stretch(3, 0), 2);
        due("12: once more", x.behind(), 4);
        due("12: it is undermost", x.stretch(0, 0), 2);
        due("12: of none", new NailThreads().behind(), 0);
    }

    private static void undo() {
        NailThreads x = Checks.boardOf("NT0agajT0bdlT0c");
        x.wind(2, 8);
        x.unwind(2);
        x.cut(0);
        x.turn();
        x.behind();
        due("13: acts", x.count(6), 5);
        due("13: behind undone", x.undo(), 4);
        due("13: undermost again", x.stretch(0, 1), 2);
        due("13: turn undone", x.undo(), 3);
        due("13: undermost back", x.stretch(0, 1), 1);
        due("13: cut undone", x.undo(), 2);
        due("13: its stretches are back", x.thread(0, 2), 3);
        due("13: and lie where they lay", x.stretch(0, 0), 0);
        due("13: and cross: l-d all of a-g, g-a, a-j, b-d none of them", x.count(3), 3);
        due("13: unwind undone", x.undo(), 1);
        due("13: at i", x.thread(2, 0), 8);
        due("13: wind undone", x.undo(), 0);
        due("13: at c", x.thread(2, 0), 2);
        due("13: none", x.undo(), STATE);
        for (int i = 0; i < 16; i++) {
            x.turn();
        }
        due("13: 14 at most", x.count(6), 14);
        for (int i = 13; i >= 0; i--) {
            due("13: left " + i, x.undo(), i);
        }
        due("13: the first two are forgotten", x.thread(2, 0), 4);
        due("13: none again", x.undo(), STATE);
        x.turn();
        due("13: a new row", x.count(6), 1);
        due("13: of one", x.undo(), 0);
    }

    private static void crossings() {
        NailThreads x = Checks.boardOf("NT0agdjT1bfT2kceT0l");
        due("14: itself once", x.crossings(0, 0), 1);
        due("14: 0 and 1: d-g d-j", x.crossings(0, 1), 2);
        due("14: likewise", x.crossings(1, 0), 2);
        due("14: 0 and 2: a-g by k-c, g-d and d-j by c-e", x.crossings(0, 2), 3);
        due("14: 1 and 2", x.crossings(1, 2), 1);
        due("14: none", x.crossings(3, 0), 0);
        due("14: none of its own", x.crossings(3, 3), 0);
        due("14: one below", x.crossings(-1, 0), UNKNOWN);
        due("14: other beyond", x.crossings(0, 4), UNKNOWN);
        due("14: both most", x.crossings(MOST, MOST), UNKNOWN);
        x = Checks.boardOf("NT0agagT0djd");
        due("14: over and over, each counts", x.crossings(0, 1), 6);
        due("14: no stretch crosses its like", x.crossings(0, 0), 0);
        x = Checks.boardOf("NT0agb");
        x.behind();
        x.wind(0, 3);
        due("14: two that lie next to each other: a-g l-d", x.crossings(0, 0), 1);
    }

    private static void parts() {
        due("15: none", new NailThreads().parts(), 1);
        due("15: one", Checks.boardOf("NT0ag").parts(), 2);
        due("15: one to and fro", Checks.boardOf("NT0agaT0ga").parts(), 2);
        due("15: beside", Checks.boardOf("NT0ab").parts(), 2);
        due("15: two that cross", Checks.boardOf("NT0agT0dj").parts(), 4);
        due("15: two that cross, often", Checks.boardOf("NT0agagT0djdj").parts(), 4);
        due("15: two that cross, at a and l", Checks.boardOf("NT0flT0ai").parts(), 4);
        NailThreads x = Checks.boardOf("NT0ag");
        due("15: ahead of a cut", x.parts(), 2);
        x.cut(0);
        due("15: behind a cut", x.parts(), 1);
        due("15: a triangle", Checks.boardOf("NT0aeia").parts(), 4);
        due("15: three through the middle, each two cross", Checks.boardOf("NT0agT0ciT0ek").parts(), 7);
        due("15: a star of six", Checks.boardOf("NT0aeiaT0cgkc").parts(), 1 + 6 + 6);
    }

    private static void strokes() {
        due("16: none", new NailThreads().strokes(), 0);
        due("16: one", Checks.boardOf("NT0ag").strokes(), 1);
        due("16: the same again", Checks.boardOf("NT0agaT0gag").strokes(), 1);
        due("16: a way round", Checks.boardOf("NT0aeia").strokes(), 1);
        due("16: two ways round", Checks.boardOf("NT0aeiaT0cgkc").strokes(), 2);
        due("16: three from one nail", Checks.boardOf("NT0abT0acT0ad").strokes(), 2);
        due("16: four from one nail", Checks.boardOf("NT0abT0acT0adT0ae").strokes(), 2);
        due("16: crossing joins nothing", Checks.boardOf("NT0agT0dj").strokes(), 2);
        due("16: five from one nail", Checks.boardOf("NT0bacadT0eaf").strokes(), 3);
        due("16: a way round from a, one from l", Checks.boardOf("NT0aeiaT0lcdl").strokes(), 2);
        due("16: joined by the last", Checks.boardOf("NT0abT0cdT0ac").strokes(), 1);
    }

    private static void next() {
        NailThreads x = Checks.boardOf("NT0agT0bhT0d");
        // from d: h crosses a-g; i to k, a cross: i j k l cross both
        due("17: the least of those that cross both", x.next(2, 0), 8);
        due("17: both", x.next(2, 1), 2);
        x = Checks.boardOf("NT1aT0h");
        due("17: none there: the least that it may", x.next(0, 0), 2);
        due("17: crosses none", x.next(0, 1), 0);
        due("17: plain", x.next(1, 0), 0);
        x = Checks.boardOf("NT3agaga");
        due("17: to none", x.next(0, 0), NONE);
        due("17: to none, how many", x.next(0, 1), NONE);
        x = Checks.boardOf("NT0agagT1dhd");
        due("17: each that is there counts", x.next(1, 1), 3);
        due("17: to h", x.next(1, 0), 7);
        due("17: below", x.next(-1, 0), UNKNOWN);
        due("17: beyond", x.next(2, 0), UNKNOWN);
        due("17: UNKNOWN ahead of OUTSIDE", x.next(2, 2), UNKNOWN);
        due("17: what below", x.next(0, -1), OUTSIDE);
        due("17: what beyond", x.next(0, 2), OUTSIDE);
    }

    private static void star() {
        NailThreads x = Checks.boardOf("NT0aT1aT2aT3a");
        due("18: times", x.star(0, 5, 12, 0), 12);
        due("18: comes back", x.star(0, 5, 12, 1), 0);
        // {12/5}: each stretch is crossed by 2 * (5 - 1) others
        due("18: twelve of five steps", x.star(0, 5, 12, 2), 12 * 8 / 2);
        due("18: five on, once", x.star(0, 5, 1, 1), 5);
        due("18: not at all", x.star(0, 5, 0, 0), 0);
        due("18: stays", x.star(0, 5, 0, 1), 0);
        due("18: crosses none", x.star(0, 5, 0, 2), 0);
        due("18: stiff beside", x.star(1, 1, 3, 0), 0);
        due("18: stiff beside, other way", x.star(1, 11, 3, 1), 0);
        due("18: gut to its first crossing: a-f, f-k, not k-d", x.star(2, 5, 12, 0), 2);
        due("18: gut is at k", x.star(2, 5, 12, 1), 10);
        due("18: elastic, 19 each", x.star(3, 5, 12, 0), 4);
        due("18: elastic, 20 each", x.star(3, 6, 12, 0), 4);
        due("18: elastic, 10 each", x.star(3, 2, 12, 0), 8);
        due("18: nothing changed", x.count(2), 0);
        due("18: no act", x.count(6), 0);
        due("18: thread below", x.star(-1, 1, 1, 0), UNKNOWN);
        due("18: UNKNOWN ahead of OUTSIDE", x.star(4, 0, 13, 3), UNKNOWN);
        int[][] wrong = {{0, 1, 0}, {12, 1, 0}, {1, -1, 0}, {1, 13, 0}, {1, 1, -1}, {1, 1, 3}, {MOST, LEAST, MOST}};
        for (int[] w : wrong) {
            due("18: " + w[0] + " " + w[1] + " " + w[2], x.star(0, w[0], w[1], w[2]), OUTSIDE);
        }
        x = Checks.boardOf("NT0djT0agagagaga");
        due("18: to 12", x.star(1, 6, 12, 0), 4);
        due("18: those that were there", x.star(1, 6, 3, 2), 3);
    }

    private static void judge() {
        NailThreads x = Checks.boardOf("NT0agT1djT0b");
        due("19: wind, cross, parts, unwind", x.judge(4, 1207602170072002L), NONE);
        due("19: wind, cross, parts, held", x.judge(4, 1207602170072001L), 3);
        due("19: wind, cross, unwind, parts", x.judge(4, 1207602120027007L), 3);
        due("19: wind, crosses not twice", x.judge(3, 120760227007L), 1);
        // a-g d-j b-h: 1 + 3 + 3
        due("19: seven parts", x.judge(2, 12077007L), NONE);
        due("19: not eight", x.judge(2, 12077008L), 1);
        due("19: wound to 11", x.judge(1, 1211), NONE);
        due("19: to 00", x.judge(1, 1200), NONE);
        due("19: where it is", x.judge(1, 1201), 0);
        due("19: no nail 12", x.judge(1, 1212), 0);
        due("19: stiff beside", x.judge(1, 1110), 0);
        due("19: no thread 3", x.judge(1, 1300), 0);
        due("19: one lies over", x.judge(1, 2000), 0);
        due("19: first the other", x.judge(2, 20012000L), NONE);
        due("19: cut, then free", x.judge(2, 30012000L), NONE);
        due("19: none to unwind", x.judge(1, 2002), 0);
        due("19: none to cut", x.judge(1, 3002), 0);
        due("19: cut twice", x.judge(2, 30003000L), 1);
        due("19: turned to c, so not to c", x.judge(2, 40001202L), 1);
        due("19: turned, back to b", x.judge(2, 40001201L), NONE);
        due("19: behind, at l", x.judge(2, 50001211L), 1);
        due("19: behind, a-g is over", x.judge(2, 50002000L), NONE);
        due("19: behind, d-j is under", x.judge(2, 50002001L), 1);
        due("19: cross once", x.judge(1, 6011), NONE);
        due("19: the other way", x.judge(1, 6101), NONE);
        due("19: not twice", x.judge(1, 6012), 0);
        due("19: itself not", x.judge(1, 6001), 0);
        due("19: itself none or more", x.judge(1, 6000), NONE);
        due("19: no thread 3 to cross", x.judge(1, 6030), 0);
        due("19: nor 3 the one", x.judge(1, 6300), 0);
        due("19: all at once", x.judge(4, 9999999999999999L), 0);
        due("19: nothing changed", x.count(2), 2);
        due("19: no act", x.count(6), 0);
    }

    private static void judgeWrong() {
        NailThreads x = Checks.boardOf("NT0agT1djT0b");
        int[] cannotBe = {0, 999, 2101, 2011, 3101, 3011, 4001, 4010, 4100, 5001, 5010, 5100, 7101, 8000, 9000};
        for (int told : cannotBe) {
            due("19: " + told, x.judge(1, told), 0);
            due("19: behind a turn, " + told, x.judge(2, 40000000L + told), 1);
        }
        NailThreads free = Checks.boardOf("NT0ag");
        due("19: unwound", free.judge(1, 2000), NONE);
        due("19: 2010", free.judge(1, 2010), 0);
        due("19: 2100", free.judge(1, 2100), 0);
        due("19: cut", free.judge(1, 3000), NONE);
        due("19: 3010", free.judge(1, 3010), 0);
        due("19: 3100", free.judge(1, 3100), 0);
        due("19: none or more parts", free.judge(1, 7000), NONE);
        due("19: 7100", free.judge(1, 7100), 0);
        due("19: first missing", x.judge(2, 4000), 0);
        due("19: n 0", x.judge(0, 0), OUTSIDE);
        due("19: n 5", x.judge(5, 4000), OUTSIDE);
        due("19: n least", x.judge(LEAST, 4000), OUTSIDE);
        due("19: n most", x.judge(MOST, 4000), OUTSIDE);
        due("19: row below 0", x.judge(1, -1), OUTSIDE);
        due("19: row least", x.judge(4, Long.MIN_VALUE), OUTSIDE);
        due("19: row most", x.judge(4, Long.MAX_VALUE), OUTSIDE);
        due("19: 5 figures", x.judge(1, 10000), OUTSIDE);
        due("19: 4 figures", x.judge(1, 9999), 0);
        due("19: 9 figures", x.judge(2, 100000000L), OUTSIDE);
        due("19: 13 figures", x.judge(3, 1000000000000L), OUTSIDE);
        due("19: 17 figures", x.judge(4, 10000000000000000L), OUTSIDE);
        due("19: 16 figures", x.judge(4, 4000400040004000L), NONE);
    }

    private static void seeAndUnsee() {
        NailThreads x = new NailThreads();
        due("20: nail below", x.see(0, -1, 0), UNKNOWN);
        due("20: UNKNOWN ahead of OUTSIDE", x.see(13, 12, 2), UNKNOWN);
        due("20: t below", x.see(-1, 0, 0), OUTSIDE);
        due("20: t beyond", x.see(13, 0, 0), OUTSIDE);
        due("20: was below", x.see(0, 0, -1), OUTSIDE);
        due("20: was beyond", x.see(0, 0, 2), OUTSIDE);
        for (int i = 1; i <= 6; i++) {
            due("20: see " + i, x.see(12, 11, 1), i);
        }
        due("20: the 7th", x.see(0, 0, 0), FULL);
        due("20: OUTSIDE ahead of FULL", x.see(13, 0, 0), OUTSIDE);
        due("20: UNKNOWN ahead of FULL", x.see(0, 12, 0), UNKNOWN);
        due("20: count", x.count(7), 6);
        due("21: unsee", x.unsee(), 6);
        due("21: none left", x.unsee(), 0);
        due("21: all again", x.stars(0), 132);
    }

    private static void stars() {
        NailThreads x = new NailThreads();
        due("22: all", x.stars(0), 132);
        due("22: the first of all", x.stars(1), 1);
        due("22: what below", x.stars(-1), OUTSIDE);
        due("22: what beyond", x.stars(2), OUTSIDE);
        x.see(0, 3, 1);
        due("22: tied to d", x.stars(0), 11);
        due("22: by 1", x.stars(1), 301);
        x.see(12, 3, 1);
        due("22: after 12 it is there again", x.stars(0), 11);
        x.see(2, 3, 0);
        due("22: not by 6", x.stars(0), 10);
        x.see(3, 6, 1);
        due("22: 3 k is 3: by 1 5 9", x.stars(0), 3);
        x.see(1, 4, 0);
        due("22: not by 1", x.stars(1), 305);
        x.see(1, 0, 0);
        due("22: not by 9", x.stars(0), 1);
        x.unsee();
        x.see(0, 11, 1);
        x.see(1, 10, 1);
        due("22: l, 11 on", x.stars(1), 1111);
        x.see(1, 10, 0);
        due("22: none", x.stars(0), 0);
        due("22: no first", x.stars(1), NONE);
        Checks.tell(x, "NT0a");
        x.board();
        x.turn();
        due("22: what is seen does not turn", x.stars(0), 0);
    }

    private static void share() {
        NailThreads x = Checks.boardOf("NT0agdjT1bfT2kceT0l");
        // itself 1; half of 2 and of 3
        due("23: 7", x.share(0, true), 7);
        due("23: by 2", x.share(0, false), 2);
        due("23: half of 2 and of 1", x.share(1, true), 3);
        due("23: by 2 too", x.share(1, false), 2);
        due("23: half of 3 and of 1", x.share(2, true), 2);
        due("23: whole", x.share(2, false), 1);
        due("23: none", x.share(3, true), 0);
        due("23: none, by 1", x.share(3, false), 1);
        due("23: below", x.share(-1, true), UNKNOWN);
        due("23: beyond", x.share(4, false), UNKNOWN);
        due("23: of none", new NailThreads().share(0, false), UNKNOWN);
    }

    private static void rests() {
        NailThreads x = Checks.boardOf("NT0aT0d");
        // a-f and d-i cross once: (0,0) 0 0; (1,0) -3 0; (0,1) 0 -3; (1,1) 3-3 3-3
        due("24: both or neither", x.rests(0, 1, 0), 2);
        due("24: neither first", x.rests(0, 1, 1), 0);
        x = Checks.boardOf("NT0adT0d");
        // 0 has -2 if it stays, -3 if it winds d-i; both end at i or begin at d: none cross
        due("24: one only", x.rests(0, 1, 0), 1);
        due("24: none winds", x.rests(0, 1, 1), 0);
        x = Checks.boardOf("NT0cgT0dT0ek");
        // thread 1: d-i crosses c-g and e-k: 6-3; 0: c-g is crossed by e-k, and by d-i; g-l crosses e-k and d-i
        due("24: 1 winds", x.rests(1, 2, 1) / 10, 1);
        due("24: what below", x.rests(0, 1, -1), OUTSIDE);
        due("24: what beyond", x.rests(0, 1, 2), OUTSIDE);
        due("24: both are one", x.rests(1, 1, 0), OUTSIDE);
        due("24: one below", x.rests(-1, 0, 0), UNKNOWN);
        due("24: other beyond", x.rests(0, 3, 0), UNKNOWN);
        due("24: UNKNOWN ahead of both are one", x.rests(3, 3, 0), UNKNOWN);
        due("24: UNKNOWN ahead of what", x.rests(0, 3, 2), UNKNOWN);
        due("24: nothing changed", x.count(2), 2);
        x = Checks.boardOf("NT3agagaT3dT0b");
        // 0 may not: its choices are alike, its last a-g; d-i crosses all four: 12-3
        due("24: either of the one", x.rests(0, 1, 0), 2);
        due("24: the other winds", x.rests(0, 1, 1), 1);
        x = Checks.boardOf("NT0aT0lT0dj");
        // each crosses d-j if it winds: 3-3; both: also each other
        due("24: a third gives as much as it takes", x.rests(0, 1, 0), 2);
        due("24: (1, 0) is not at rest", x.rests(0, 1, 1), 0);
        x = Checks.boardOf("NT0agT0c");
        // 0 has -4, g-l -3; c-h crosses a-g, and g-l: (0,1) -1 0; (1,1) 0 3
        due("24: both wind", x.rests(0, 1, 0), 1);
        due("24: both wind, told so", x.rests(0, 1, 1), 11);
        restsByTheLastWound();
    }

    private static void restsByTheLastWound() {
        NailThreads x = Checks.boardOf("NT0abT0l");
        x.wind(0, 6);
        x.behind();
        // last of 0 is l-g from behind: LONG 19, uncrossed: -3; g-l: -3; so its choices are alike
        // 1 at b: stays 0, b-g: -3, crosses none; so 1 stays
        due("24: from behind the last is the last wound", x.rests(0, 1, 0), 2);
        due("24: from behind the first", x.rests(0, 1, 1), 0);
    }

    private static void snaps() {
        NailThreads x = Checks.boardOf("NT0agdjT1bfT2kce");
        due("25: surely", x.snaps(0, 3, true), 1);
        due("25: surely, by 1", x.snaps(0, 3, false), 1);
        due("25: none is cut: all 7", x.snaps(7, 0, true), 1);
        due("25: not 8", x.snaps(8, 0, true), 0);
        due("25: not 8, by 1", x.snaps(8, 0, false), 1);
        due("25: all are cut", x.snaps(1, 10, true), 0);
        // 7: none is cut: 729 of 1000
        due("25: none of three", x.snaps(7, 1, true), 729);
        due("25: of a thousand", x.snaps(7, 1, false), 1000);
        // 4 or more: 0 and 2 stay: 64 of 100
        due("25: two stay", x.snaps(4, 2, true), 16);
        due("25: of 25", x.snaps(4, 2, false), 25);
        // 1 or more: 0 stays, or 1 and 2: 7/10 + 3/10 * 49/100
        due("25: one stays, or the others", x.snaps(1, 3, true), 847);
        due("25: 99", x.snaps(99, 0, true), 0);
        due("25: nothing changed", x.count(2), 6);
        due("25: v below", x.snaps(-1, 0, true), OUTSIDE);
        due("25: v beyond", x.snaps(100, 0, false), OUTSIDE);
        due("25: x below", x.snaps(0, -1, true), OUTSIDE);
        due("25: x beyond", x.snaps(0, 11, false), OUTSIDE);
        NailThreads none = new NailThreads();
        due("25: no threads", none.snaps(0, 10, true), 1);
        due("25: no threads, one crossing", none.snaps(1, 0, false), 1);
        x = Checks.boardOf("NT0agT0djT0ekT0ci");
        due("25: four threads", x.snaps(6, 1, true), 6561);
        due("25: four threads, of", x.snaps(6, 1, false), 10000);
    }

    private static void seedAndYears() {
        NailThreads x = Checks.boardOf("NT0agdjT1bfT2kce");
        due("26: at first", x.seed(Long.MIN_VALUE), 0);
        due("26: what it was", x.seed(5), Long.MIN_VALUE);
        due("27: m 0", x.years(0), OUTSIDE);
        due("27: m 31", x.years(31), OUTSIDE);
        due("27: m least", x.years(LEAST), OUTSIDE);
        due("27: refused, the seed stays", x.seed(0), 5);
        x.years(1);
        due("27: from 0", x.seed(0), 1442695040888963407L);
        x.years(2);
        due("27: twice", x.seed(1442695040888963407L * 6364136223846793005L + 1442695040888963407L),
            1442695040888963407L * 6364136223846793005L + 1442695040888963407L);
        x.seed(5);
        int once = x.years(30);
        x.seed(5);
        due("27: from the same seed the same", x.years(30), once);
        x.seed(5);
        int sum = 0;
        for (int m = 1; m <= 30; m++) {
            sum = x.years(1);
        }
        due("27: each year begins at the board, 7 and what one brings", sum >= 0 && sum <= 7 + 6 ? 1 : 0, 1);
        due("27: nothing changed", x.count(2), 6);
        due("27: nor turned", x.stretch(0, 1), 0);
        due("27: no act", x.count(6), 0);
        NailThreads none = new NailThreads();
        due("27: no threads", none.years(30), 0);
    }

    /** A seed from which the first draw leaves that number by 60. */
    private static long seedFor(int drawn) {
        for (long s = 0; s < 100000; s++) {
            long x = s * 6364136223846793005L + 1442695040888963407L;
            if ((x >>> 33) % 60 == drawn) {
                return s;
            }
        }
        throw new IllegalStateException("no seed for " + drawn);
    }

    private static int yearOf(String text, int drawn) {
        NailThreads x = Checks.boardOf(text);
        x.seed(seedFor(drawn));
        return x.years(1);
    }

    private static void yearsEachDoing() {
        // a-g with d-j, b-h and l-f over it: six cross; c-i, e-k, .. cross what they meet
        String text = "NT0agT0djT0bhT0lf";
        // three of them cross each other, l-f crosses three
        due("27: as it is", Checks.boardOf(text).count(3), 6);
        due("27: 0: to a", yearOf(text, 0), 6 + 3);
        due("27: 6: is there", yearOf(text, 6), 6);
        due("27: 12 + 3: j-d", yearOf(text, 15), 6 + 3);
        due("27: 47: f-l", yearOf(text, 47), 6 + 3);
        due("27: 48: held", yearOf(text, 48), 6);
        due("27: 51: unwound", yearOf(text, 51), 3);
        due("27: 52: cut", yearOf(text, 52), 3);
        due("27: 53: cut", yearOf(text, 53), 3);
        due("27: 54: turned", yearOf(text, 54), 6);
        due("27: 56: turned", yearOf(text, 56), 6);
        due("27: 57: behind", yearOf(text, 57), 6);
        due("27: 59: behind", yearOf(text, 59), 6);
        due("27: two that only turn, together", yearsOfTurns(text), 6 + 6);
        due("27: no such thread", yearOf("NT0agdj", 12), 1);
        due("27: none to unwind", yearOf("NT0agdjT0a", 49), 1);
        due("27: none to cut", yearOf("NT0agdjT0a", 53), 1);
    }

    private static int yearsOfTurns(String text) {
        for (long s = 0; s < 100000; s++) {
            long one = s * 6364136223846793005L + 1442695040888963407L;
            long two = one * 6364136223846793005L + 1442695040888963407L;
            if ((one >>> 33) % 60 >= 54 && (two >>> 33) % 60 >= 54) {
                NailThreads x = Checks.boardOf(text);
                x.seed(s);
                return x.years(2);
            }
        }
        throw new IllegalStateException("no such seed");
    }

    private static void keepAndAgain() {
        NailThreads x = Checks.boardOf("NT0agT1djT2kc");
        due("28: below", x.keep(-1), UNKNOWN);
        due("28: beyond", x.keep(2), UNKNOWN);
        due("29: below", x.again(-1), UNKNOWN);
        due("29: beyond", x.again(2), UNKNOWN);
        due("29: none kept", x.again(0), STATE);
        x.behind();
        due("28: keep", x.keep(1), 3);
        due("28: no act", x.count(6), 1);
        due("29: the other slot is empty", x.again(0), STATE);
        x.cut(0);
        x.wind(0, 1);
        x.turn();
        due("28: keep the other", x.keep(0), 3);
        due("29: again", x.again(1), 3);
        due("29: the row is empty", x.count(6), 0);
        due("29: none to undo", x.undo(), STATE);
        due("29: as they lay", x.stretch(0, 0), 2);
        due("29: nail", x.thread(0, 0), 6);
        due("29: kind", x.thread(2, 1), 2);
        due("29: crossings", x.count(3), 2);
        x.cut(2);
        due("29: and again", x.again(1), 3);
        due("29: the other", x.again(0), 3);
        due("29: where it was", x.thread(0, 0), 2);
        x.cut(1);
        due("28: over what was kept", x.keep(1), 2);
        due("29: the newer", x.again(1), 2);
        NailThreads none = new NailThreads();
        due("28: none", none.keep(1), 0);
        due("29: none", none.again(1), 0);
    }

    private static void count() {
        NailThreads x = Checks.boardOf("NT0agdjT1bfT2kce");
        x.see(0, 0, 0);
        x.see(1, 0, 0);
        x.turn();
        x.turn();
        x.turn();
        x.undo();
        x.undo();
        x.undo();
        x.behind();
        due("30: letters", x.count(0), 16);
        due("30: threads", x.count(1), 3);
        due("30: stretches", x.count(2), 6);
        due("30: cross", x.count(3), 7);
        due("30: ends, from behind a g j d l h c k i", x.count(4), 1 + 4 + 8 + 64 + 128 + 256 + 512 + 1024 + 2048);
        due("30: length 20 14 20 17 17 10", x.count(5), 98);
        due("30: acts", x.count(6), 1);
        due("30: seen", x.count(7), 2);
        due("30: below", x.count(-1), OUTSIDE);
        due("30: beyond", x.count(8), OUTSIDE);
        due("30: tied is no end", Checks.boardOf("NT0aT0bc").count(4), 2 + 4);
    }

    private static void refusedChangesNothing() {
        NailThreads x = Checks.boardOf("NT0agT1djT3agaga");
        x.seed(9);
        x.see(1, 1, 1);
        x.write(300);
        x.wind(0, 12);
        x.wind(0, 6);
        x.wind(2, 6);
        x.unwind(0);
        x.unwind(7);
        x.cut(7);
        x.again(0);
        x.again(5);
        x.see(13, 0, 0);
        x.years(31);
        x.judge(5, 4000);
        int[] want = {16, 3, 6, 5, 1 + 8 + 64 + 512, 120, 0, 1};
        for (int what = 0; what < want.length; what++) {
            due("refused, count " + what, x.count(what), want[what]);
        }
        due("refused, seed", x.seed(0), 9);
    }
}
