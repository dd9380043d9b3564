/** Long runs of calls, drawn by a fixed row of numbers, on LastOfKind and on the Model: both must answer alike. */
public final class LongRunsTest {
    private static final int CALLS = 512;
    private static final int MOST_TOLD = 20;

    private static long state;
    private static int wrong = 0;

    private LastOfKind real;
    private Model model;
    private final StringBuilder told = new StringBuilder();

    public static void main(String[] args) {
        int runs = args.length > 0 ? Integer.parseInt(args[0]) : 400;
        for (int run = 0; run < runs && wrong < MOST_TOLD; run++) {
            state = run * 7919L + 17;
            new LongRunsTest().play(run);
        }
        System.out.println(wrong == 0 ? "long runs: all " + runs + " answer as the model" : "long runs: " + wrong + " wrong");
        if (wrong != 0) {
            System.exit(1);
        }
    }

    /** From 0 up to below n. */
    private static int draw(int n) {
        state = state * 2862933555777941757L + 3037000493L;
        return (int) ((state >>> 33) % n);
    }

    private static int oneOf(int... values) {
        return values[draw(values.length)];
    }

    private void play(int run) {
        real = new LastOfKind();
        model = new Model();
        int calls = 0;
        int kind = run % 4;
        while (calls < CALLS) {
            if (calls == 0 && kind != 3 || draw(120) == 0) {
                calls += tellHouse(CALLS - calls, kind);
            } else {
                // In quiet runs the house mostly grows, hides and is asked, and little is undone.
                call(run, kind == 1 ? quietCall() : draw(33));
                calls++;
            }
            if (wrong >= MOST_TOLD) {
                return;
            }
        }
    }

    private static int quietCall() {
        return oneOf(4, 5, 6, 8, 9, 9, 9, 10, 10, 11, 12, 13, 16, 17, 18, 19, 20, 21, 22, 22, 24, 25, 26, 27, 29, 32, 32);
    }

    private int tellHouse(int room, int kind) {
        StringBuilder text = new StringBuilder("K").append(1 + draw(4));
        int things = kind == 2 ? draw(4) : draw(7);
        int signs = 1 + draw(3);
        for (int i = 0; i < things; i++) {
            text.append('X');
            for (int mark = 0; mark < 4; mark++) {
                text.append(draw(10) == 0 ? draw(10) : draw(signs));
            }
            text.append(draw(3)).append(1 + draw(9)).append(1 + draw(9)).append(draw(4) == 0 ? 1 : 0);
        }
        if (draw(6) == 0) {
            text.setCharAt(draw(text.length()), (char) oneOf('0', '5', 'X', 'K', '9', '3', ' '));
        }
        if (text.length() + 2 > room) {
            same(0, "year()", real.year(), model.year());
            return 1;
        }
        same(0, "wipe()", real.wipe(), model.wipe());
        for (int i = 0; i < text.length(); i++) {
            int letter = text.charAt(i);
            same(0, "write(" + letter + ")", real.write(letter), model.write(letter));
        }
        same(0, "house()", real.house(), model.house());
        return text.length() + 2;
    }

    private static int thing() {
        return draw(25) == 0 ? oneOf(-1, 8, 9, 31, 32, Integer.MIN_VALUE, Integer.MAX_VALUE) : draw(8);
    }

    private static int number(int least, int most) {
        return draw(15) == 0
            ? oneOf(least - 1, most + 1, Integer.MIN_VALUE, Integer.MAX_VALUE, least - 2, most + 2)
            : least + draw(most - least + 1);
    }

    private void same(int run, String call, long got, long due) {
        told.append(call).append(' ');
        if (got != due) {
            wrong++;
            System.out.println("run " + run + ": " + call + " answered " + got + ", the model " + due + ", after " + told);
        }
    }

    private void call(int run, int which) {
        if (which <= 6) {
            callHouse(run, which);
        } else if (which <= 15) {
            callAct(run, which);
        } else if (which <= 24) {
            callPlan(run, which);
        } else {
            callChance(run, which);
        }
    }

    private void callHouse(int run, int which) {
        int a = thing();
        switch (which) {
            case 0: {
                int letter = number(0, 255);
                same(run, "write(" + letter + ")", real.write(letter), model.write(letter));
                break;
            }
            case 1:
                if (draw(4) == 0) same(run, "wipe()", real.wipe(), model.wipe());
                break;
            case 2: same(run, "fault()", real.fault(), model.fault()); break;
            case 3:
                if (draw(4) == 0) same(run, "house()", real.house(), model.house());
                break;
            case 4: {
                int what = number(0, 11);
                same(run, "thing(" + a + ", " + what + ")", real.thing(a, what), model.thing(a, what));
                break;
            }
            case 5: same(run, "alike(" + a + ")", real.alike(a), model.alike(a)); break;
            default: same(run, "price(" + a + ")", real.price(a), model.price(a)); break;
        }
    }

    private void callAct(int run, int which) {
        int a = thing();
        switch (which) {
            case 7: same(run, "broken(" + a + ")", real.broken(a), model.broken(a)); break;
            case 8: {
                int marks = draw(10) == 0 ? number(0, 9999) : draw(3) * 1000 + draw(3) * 100 + draw(3) * 10 + draw(3);
                int owner = number(0, 2);
                same(run, "forge(" + marks + ", " + owner + ")", real.forge(marks, owner), model.forge(marks, owner));
                break;
            }
            case 9: same(run, "hide(" + a + ")", real.hide(a), model.hide(a)); break;
            case 10: same(run, "claim(" + a + ")", real.claim(a), model.claim(a)); break;
            case 11: same(run, "guard(" + a + ")", real.guard(a), model.guard(a)); break;
            case 12: {
                int word = number(1, 4);
                same(run, "word(" + word + ")", real.word(word), model.word(word));
                break;
            }
            case 13: same(run, "year()", real.year(), model.year()); break;
            case 14: same(run, "undo()", real.undo(), model.undo()); break;
            default: {
                int n = number(1, 4);
                int row = draw(15) == 0 ? number(0, 99999999) : actsTold(n);
                same(run, "judge(" + n + ", " + row + ")", real.judge(n, row), model.judge(n, row));
                break;
            }
        }
    }

    private static int actsTold(int n) {
        int row = 0;
        for (int i = 0; i < Math.min(n, 4); i++) {
            row = row * 100 + (draw(12) == 0 ? draw(100) : draw(4) * 10 + draw(7));
        }
        return row;
    }

    private void callPlan(int run, int which) {
        int a = thing();
        int what = number(0, 1);
        switch (which) {
            case 16: same(run, "campaign(" + a + ")", real.campaign(a), model.campaign(a)); break;
            case 17:
                same(run, "campaignBy(" + a + ", " + what + ")", real.campaignBy(a, what), model.campaignBy(a, what));
                break;
            case 18: same(run, "copy(" + a + ")", real.copy(a), model.copy(a)); break;
            case 19: same(run, "bestWord(" + what + ")", real.bestWord(what), model.bestWord(what)); break;
            case 20: {
                int of = number(0, 4);
                // The model needs long for many things, so it is not asked each time.
                if (model.count(1) < 6 || draw(5) == 0) same(run, "rests(" + of + ")", real.rests(of), model.rests(of));
                break;
            }
            case 21: {
                int k = draw(15) == 0 ? number(0, 8) : draw(5);
                boolean atLeast = draw(2) == 0;
                same(run, "sight(" + a + ", " + k + ", " + atLeast + ")", real.sight(a, k, atLeast), model.sight(a, k, atLeast));
                break;
            }
            case 22: {
                int of = number(0, 2);
                same(run, "worlds(" + of + ")", real.worlds(of), model.worlds(of));
                break;
            }
            case 23:
                if (draw(3) == 0) same(run, "unsight()", real.unsight(), model.unsight());
                break;
            default: same(run, "toSeek()", real.toSeek(), model.toSeek()); break;
        }
    }

    private void callChance(int run, int which) {
        int a = thing();
        int slot = number(0, 1);
        switch (which) {
            case 25: {
                int n = model.count(1) > 4 && draw(8) != 0 ? number(0, 3) : number(0, 4);
                same(run, "byTurns(" + n + ", " + slot + ")", real.byTurns(n, slot), model.byTurns(n, slot));
                break;
            }
            case 26: {
                int x = number(0, 10);
                same(run, "chance(" + a + ", " + x + ", true)", real.chance(a, x, true), model.chance(a, x, true));
                same(run, "chance(" + a + ", " + x + ", false)", real.chance(a, x, false), model.chance(a, x, false));
                break;
            }
            case 27: {
                int m = draw(3) == 0 ? number(1, 30) : 1 + draw(3);
                int t = draw(3) == 0 ? number(0, 10) : draw(4);
                same(run, "years(" + m + ", " + t + ")", real.years(m, t), model.years(m, t));
                break;
            }
            case 28: {
                long v = draw(2) == 0 ? draw(100) - 50 : state;
                same(run, "seed(" + v + ")", real.seed(v), model.seed(v));
                break;
            }
            case 29: same(run, "keep(" + slot + ")", real.keep(slot), model.keep(slot)); break;
            case 30: same(run, "again(" + slot + ")", real.again(slot), model.again(slot)); break;
            default: {
                int what = number(0, 10);
                same(run, "count(" + what + ")", real.count(what), model.count(what));
                break;
            }
        }
    }
}
