/** Every call with every number near an edge, and far beyond it, in houses of several kinds, held against the Model. */
public final class ExtremesTest {
    private static final int[] NUMBERS = {Integer.MIN_VALUE, Integer.MIN_VALUE + 1, -65536, -10, -9, -4, -3, -2, -1, 0, 1, 2, 3,
        4, 5, 6, 7, 8, 9, 10, 11, 12, 15, 16, 29, 30, 31, 32, 33, 55, 56, 57, 63, 64, 65, 99, 100, 255, 256, 257, 9999, 10000,
        999999, 1000000, 99999999, 100000000, 65536, Integer.MAX_VALUE - 1, Integer.MAX_VALUE};
    private static final long[] SEEDS = {Long.MIN_VALUE, -1, 0, 1, 1L << 31, 1L << 32, 1L << 33, Long.MAX_VALUE};
    private static final String[] HOUSES = {"", "K4", "K1X00000110", "K2X12340561X12350110X99992991X12340220",
        "K3X11110110X11121990X11220551X12220220X11112110X99992991", "K4X11110911X11111910X11112910X22220110X22221111X33332550"};

    private static int wrong = 0;
    private static int calls = 0;

    private LastOfKind real;
    private Model model;
    private int used;
    private final String house;
    private final boolean busy;

    private ExtremesTest(String house, boolean busy) {
        this.house = house;
        this.busy = busy;
        begin();
    }

    public static void main(String[] args) {
        for (String house : HOUSES) {
            new ExtremesTest(house, false).all();
            new ExtremesTest(house, true).all();
        }
        System.out.println("extremes: " + calls + " calls, " + wrong + " answers are not as the model's");
        if (wrong != 0) {
            System.exit(1);
        }
    }

    /** A new object, since none is good for more than 512 calls. */
    private void begin() {
        real = new LastOfKind();
        model = new Model();
        used = 2 * house.length() + 40;
        tell();
        if (busy) {
            for (int thing = 0; thing < 6; thing++) {
                same("claim", real.claim(thing), model.claim(thing));
            }
            for (int i = 0; i < 20; i++) {
                same("year", real.year(), model.year());
            }
            same("hide", real.hide(1), model.hide(1));
            same("broken", real.broken(2), model.broken(2));
            same("forge", real.forge(1234, 1), model.forge(1234, 1));
            same("hide", real.hide(3), model.hide(3));
            same("sight", real.sight(1, 1, true), model.sight(1, 1, true));
            same("keep", real.keep(1), model.keep(1));
        }
    }

    private void tell() {
        for (char letter : house.toCharArray()) {
            same("write", real.write(letter), model.write(letter));
        }
        same("house", real.house(), model.house());
    }

    private void same(String call, long got, long due) {
        calls++;
        if (got != due) {
            wrong++;
            System.out.println("in " + house + (busy ? ", busy, " : " ") + call + " answered " + got + ", the model " + due);
        }
    }

    private void room(int more) {
        used += more;
        if (used > 512) {
            begin();
        }
    }

    private void all() {
        for (int a : NUMBERS) {
            room(28);
            ofOneNumber(a);
        }
        for (int a : NUMBERS) {
            for (int b : NUMBERS) {
                room(10);
                ofTwoNumbers(a, b);
            }
        }
        for (long v : SEEDS) {
            room(3);
            same("seed " + v, real.seed(v), model.seed(v));
            same("years", real.years(30, 1), model.years(30, 1));
            same("years", real.years(1, 9), model.years(1, 9));
        }
    }

    private void ofOneNumber(int a) {
        String of = "(" + a + ")";
        same("alike" + of, real.alike(a), model.alike(a));
        same("price" + of, real.price(a), model.price(a));
        same("campaign" + of, real.campaign(a), model.campaign(a));
        same("copy" + of, real.copy(a), model.copy(a));
        same("bestWord" + of, real.bestWord(a), model.bestWord(a));
        same("rests" + of, real.rests(a), model.rests(a));
        same("worlds" + of, real.worlds(a), model.worlds(a));
        same("count" + of, real.count(a), model.count(a));
        same("write" + of, real.write(a), model.write(a));
        same("keep" + of, real.keep(a), model.keep(a));
        same("word" + of, real.word(a), model.word(a));
        same("undo", real.undo(), model.undo());
        same("guard" + of, real.guard(a), model.guard(a));
        same("hide" + of, real.hide(a), model.hide(a));
        same("undo", real.undo(), model.undo());
        same("claim" + of, real.claim(a), model.claim(a));
        same("undo", real.undo(), model.undo());
        same("broken" + of, real.broken(a), model.broken(a));
        same("acts", real.count(9), model.count(9));
        same("undo", real.undo(), model.undo());
        same("again" + of, real.again(a), model.again(a));
        same("shown", real.count(4), model.count(4));
        same("fault", real.fault(), model.fault());
        same("toSeek", real.toSeek(), model.toSeek());
    }

    private void ofTwoNumbers(int a, int b) {
        String of = "(" + a + ", " + b + ")";
        same("thing" + of, real.thing(a, b), model.thing(a, b));
        same("campaignBy" + of, real.campaignBy(a, b), model.campaignBy(a, b));
        same("judge" + of, real.judge(a, b), model.judge(a, b));
        same("years" + of, real.years(a, b), model.years(a, b));
        same("chance" + of + " above", real.chance(a, b, true), model.chance(a, b, true));
        same("chance" + of + " below", real.chance(a, b, false), model.chance(a, b, false));
        same("byTurns" + of, real.byTurns(a, b), model.byTurns(a, b));
        if (a <= 0 || a > 100 || b == 0) {
            same("forge" + of, real.forge(a, b), model.forge(a, b));
        }
        if (b < 0 || a == 0 || b > 7) {
            same("sight" + of, real.sight(a, b, true), model.sight(a, b, true));
            same("unsight", real.unsight(), model.unsight());
        }
    }
}
