import java.util.Random;

/** Runs of 512 calls by fixed seeds, each answer held against the model's. */
public final class LongRunsTest {
    private static final int CALLS = 29;
    private final Checks checks = new Checks();
    private final Random random;
    private final NailThreads x = new NailThreads();
    private final Model y = new Model();
    private final int number;
    private int made = 0;
    private boolean isWrong = false;

    private LongRunsTest(int number) {
        this.number = number;
        this.random = new Random(number);
    }

    public static void main(String[] args) {
        int[] answers = new int[2];
        for (int i = 0; i < 400; i++) {
            LongRunsTest run = new LongRunsTest(i);
            run.go();
            answers[0] += run.made;
            answers[1] += run.isWrong ? 1 : 0;
        }
        System.out.println(answers[0] + " calls, " + answers[1] + " runs not as due");
        if (answers[1] != 0) {
            System.exit(1);
        }
    }

    private void due(String call, long got, long want) {
        made++;
        if (got != want) {
            isWrong = true;
        }
        checks.due("run " + number + ", call " + made + ": " + call, got, want);
    }

    private void go() {
        while (made < 512 && !isWrong) {
            if (made < 440 && random.nextInt(60) == 0 || made == 0) {
                tellText();
            } else {
                one(random.nextInt(CALLS + 26));
            }
        }
    }

    private void tellText() {
        due("wipe", x.wipe(), y.wipe());
        String text = random.nextInt(8) == 0 ? spoilt(boardText()) : boardText();
        for (char c : text.toCharArray()) {
            due("write " + c, x.write(c), y.write(c));
            if (random.nextInt(9) == 0) {
                due("fault " + text, x.fault(), y.fault());
            }
        }
        due("fault " + text, x.fault(), y.fault());
        due("board " + text, x.board(), y.board());
    }

    private String boardText() {
        StringBuilder s = new StringBuilder("N");
        int threads = 1 + random.nextInt(4);
        for (int t = 0; t < threads; t++) {
            int kind = random.nextInt(3) == 0 ? 0 : random.nextInt(4);
            s.append('T').append(kind);
            int nail = random.nextInt(12);
            int nails = 1 + random.nextInt(kind == 0 ? 9 : 4);
            for (int i = 0; i < nails; i++) {
                s.append((char) ('a' + nail));
                nail = (nail + (kind == 0 ? 1 + random.nextInt(11) : 2 + random.nextInt(9))) % 12;
            }
        }
        return s.toString();
    }

    private String spoilt(String text) {
        int at = random.nextInt(text.length());
        char sign = "NT0123abghl4mX".charAt(random.nextInt(14));
        return text.substring(0, at) + sign + (random.nextBoolean() ? text.substring(at) : "");
    }

    private int t() {
        return random.nextInt(12) == 0 ? random.nextInt(8) - 2 : random.nextInt(4);
    }

    private int upTo(int most) {
        int[] wrong = {-1, most + 1, Integer.MIN_VALUE, Integer.MAX_VALUE};
        return random.nextInt(20) == 0 ? wrong[random.nextInt(4)] : random.nextInt(most + 1);
    }

    private long row(int n) {
        long row = 0;
        for (int i = 0; i < n; i++) {
            int[] kinds = {1000 + 100 * random.nextInt(4) + random.nextInt(13), 2000 + random.nextInt(4),
                3000 + random.nextInt(4), 4000, 5000, 6000 + 100 * random.nextInt(4) + random.nextInt(40),
                7000 + random.nextInt(30), random.nextInt(10000)};
            row = 10000 * row + kinds[random.nextInt(12) == 0 ? 7 : random.nextInt(7)];
        }
        return random.nextInt(25) == 0 ? -1 - row : random.nextInt(25) == 0 ? row * 10 : row;
    }

    private void one(int which) {
        if (which >= CALLS) {
            // Winding comes most often, so that boards get full.
            int t = t();
            int nail = upTo(11);
            due("wind " + t + " " + nail, x.wind(t, nail), y.wind(t, nail));
        } else if (which < 14) {
            boardCall(which);
        } else {
            otherCall(which);
        }
    }

    private void boardCall(int which) {
        int t = t();
        int w = upTo(5);
        switch (which) {
            case 0: due("thread " + t + " " + w, x.thread(t, w), y.thread(t, w)); break;
            case 1:
            case 2: {
                int s = random.nextInt(50) - 1;
                due("stretch " + s + " " + w, x.stretch(s, w), y.stretch(s, w));
                break;
            }
            case 3: due("unwind " + t, x.unwind(t), y.unwind(t)); break;
            case 4:
                if (random.nextInt(4) == 0) {
                    due("cut " + t, x.cut(t), y.cut(t));
                }
                break;
            case 5: due("turn", x.turn(), y.turn()); break;
            case 6: due("behind", x.behind(), y.behind()); break;
            case 7:
                for (int i = random.nextInt(4); i >= 0; i--) {
                    due("undo", x.undo(), y.undo());
                }
                break;
            case 8: {
                int u = t();
                due("crossings " + t + " " + u, x.crossings(t, u), y.crossings(t, u));
                break;
            }
            case 9: due("parts", x.parts(), y.parts()); break;
            case 10: due("strokes", x.strokes(), y.strokes()); break;
            case 11: {
                int what = upTo(1);
                due("next " + t + " " + what, x.next(t, what), y.next(t, what));
                break;
            }
            case 12: {
                int k = upTo(11);
                int n = upTo(12);
                int what = upTo(2);
                due("star " + t + " " + k + " " + n + " " + what, x.star(t, k, n, what), y.star(t, k, n, what));
                break;
            }
            default: {
                int n = upTo(4);
                long row = row(Math.max(0, Math.min(4, n)));
                due("judge " + n + " " + row, x.judge(n, row), y.judge(n, row));
            }
        }
    }

    private void otherCall(int which) {
        int t = t();
        boolean upper = random.nextBoolean();
        switch (which) {
            case 14: {
                int time = upTo(12);
                int nail = upTo(11);
                int was = random.nextInt(3) == 0 ? upTo(1) : 0;
                due("see " + time + " " + nail + " " + was, x.see(time, nail, was), y.see(time, nail, was));
                break;
            }
            case 15: due("unsee", x.unsee(), y.unsee()); break;
            case 16:
            case 17: {
                int what = upTo(1);
                due("stars " + what, x.stars(what), y.stars(what));
                break;
            }
            case 18: due("share " + t + " " + upper, x.share(t, upper), y.share(t, upper)); break;
            case 19: {
                int u = t();
                int what = upTo(1);
                due("rests " + t + " " + u + " " + what, x.rests(t, u, what), y.rests(t, u, what));
                break;
            }
            case 20: {
                int v = random.nextBoolean() ? upTo(99) : upTo(9);
                int tenths = upTo(10);
                due("snaps " + v + " " + tenths, x.snaps(v, tenths, upper), y.snaps(v, tenths, upper));
                break;
            }
            case 21: {
                long v = random.nextLong();
                due("seed " + v, x.seed(v), y.seed(v));
                break;
            }
            case 22:
            case 23: {
                int m = random.nextInt(10) == 0 ? random.nextInt(34) - 1 : 1 + random.nextInt(30);
                due("years " + m, x.years(m), y.years(m));
                break;
            }
            case 24: {
                int slot = upTo(1);
                due("keep " + slot, x.keep(slot), y.keep(slot));
                break;
            }
            case 25:
                if (random.nextInt(3) == 0) {
                    int slot = upTo(1);
                    due("again " + slot, x.again(slot), y.again(slot));
                }
                break;
            default: {
                int what = upTo(7);
                due("count " + what, x.count(what), y.count(what));
            }
        }
    }
}
