/** The sentences under 'Promise 1' to 'Promise 33', each by itself, with answers worked out by hand. */
final class PromiseSentences {
    private static final int UNKNOWN = -1, OUTSIDE = -2, STATE = -3, FULL = -4, NONE = -9;
    private static final int LEAST = Integer.MIN_VALUE, MOST = Integer.MAX_VALUE;
    private static final String THREE = "K3X12340561X12352980X77771120";

    private PromiseSentences() {
    }

    static void run() {
        texts();
        askings();
        breaking();
        forging();
        hiding();
        claiming();
        guarding();
        wording();
        years();
        undoing();
        judging();
        campaigns();
        copies();
        words();
        rests();
        sights();
        worlds();
        turns();
        chances();
        seeds();
        slots();
        counts();
    }

    private static void promise(int number) {
        Sentences.promise(number);
    }

    private static void test(String words, Runnable test) {
        Sentences.test(words, test);
    }

    private static void due(String call, long got, long want) {
        Sentences.due(call, got, want);
    }

    private static LastOfKind houseOf(String text) {
        return Sentences.houseOf(text);
    }

    private static LastOfKind forged(int word, int... marks) {
        return Sentences.forged(word, marks);
    }

    // ---- the house

    private static void texts() {
        promise(1);
        test("No things.", () -> {
            LastOfKind x = new LastOfKind();
            int[] counts = {0, 0, 4, 0, 0, 0, 0, 0, 0, 0, 0};
            for (int what = 0; what <= 10; what++) {
                due("count " + what, x.count(what), counts[what]);
            }
            due("thing(0, 0)", x.thing(0, 0), UNKNOWN);
            due("forge is the first", x.forge(1, 1), 0);
            due("another object has none", new LastOfKind().count(1), 0);
        });
        promise(2);
        test("A letter (0 to 255) comes behind THE TEXT: how long it is.", () -> {
            LastOfKind x = new LastOfKind();
            due("letter 0", x.write(0), 1);
            due("letter 255", x.write(255), 2);
            x.wipe();
            due("behind an empty one", x.write('K'), 1);
            due("behind it", x.write('2'), 2);
            due("it is read so", x.house(), 0);
            due("the word", x.count(2), 2);
        });
        test("OUTSIDE;", () -> {
            LastOfKind x = new LastOfKind();
            for (int letter : new int[] {LEAST, -1, 256, 256 + 'K', MOST}) {
                due("letter " + letter, x.write(letter), OUTSIDE);
            }
            due("letters", x.count(0), 0);
        });
        test("FULL: there are 56.", () -> {
            LastOfKind x = new LastOfKind();
            for (int i = 1; i <= 55; i++) {
                x.write('K');
            }
            due("the 56th", x.write('K'), 56);
            due("the 57th", x.write('K'), FULL);
            due("letters", x.count(0), 56);
            x.wipe();
            due("after a wipe", x.write('K'), 1);
        });
        promise(3);
        test("THE TEXT is empty: how long it was.", () -> {
            LastOfKind x = new LastOfKind();
            due("an empty one", x.wipe(), 0);
            for (int i = 0; i < 56; i++) {
                x.write('K');
            }
            due("a full one", x.wipe(), 56);
            due("letters", x.count(0), 0);
            due("fault", x.fault(), 0);
            due("once more", x.wipe(), 0);
        });
        promise(4);
        test("FAULT; NONE.", () -> {
            LastOfKind x = new LastOfKind();
            due("an empty text", x.fault(), 0);
            x.write('K');
            due("at its end is one", x.fault(), 1);
            x.write('1');
            due("no fault", x.fault(), NONE);
            x.write('Y');
            due("a letter that can not be", x.fault(), 2);
            x.write('X');
            due("it stays the first", x.fault(), 2);
        });
        promise(5);
        test("THE TEXT (that stays as it is) is THE HOUSE", () -> {
            LastOfKind x = houseOf(THREE);
            due("letters", x.count(0), 29);
            due("no fault", x.fault(), NONE);
            due("once more", x.house(), 3);
            Sentences.tell(x, "K2X21430110X00000120");
            due("another one", x.house(), 2);
            due("its marks", Sentences.marksOf(x, 0) * 10000L + Sentences.marksOf(x, 1), 21430000);
            int[] figures = {0, 1, 1, 0, 0, 1, 2, 0};
            for (int i = 0; i < 8; i++) {
                due("figure " + i, x.thing(i / 4, 4 + i % 4), figures[i]);
            }
        });
        test("(THE ROW of ACTS is empty, what was kept is gone; what is SIGHTED, THE SEED stay): how many THINGS.", () -> {
            LastOfKind x = houseOf(THREE);
            x.year();
            x.keep(0);
            x.keep(1);
            x.sight(2, 1, true);
            x.seed(-3);
            due("how many", x.house(), 3);
            due("acts", x.count(9), 0);
            due("to undo", x.undo(), STATE);
            due("kept in 0", x.again(0), STATE);
            due("kept in 1", x.again(1), STATE);
            due("sighted", x.count(10), 1);
            due("the seed", x.seed(0), -3);
            Sentences.tell(x, "K1");
            due("none", x.house(), 0);
            due("no things", x.thing(0, 0), UNKNOWN);
        });
        test("STATE: a FAULT.", () -> {
            LastOfKind x = houseOf(THREE);
            for (String text : new String[] {"", "K", "K0", "K5", "K3X", "K3X1234056", "K3X12340561X", "k3", "K3X1234056 "}) {
                Sentences.tell(x, text);
                due("house of '" + text + "'", x.house(), STATE);
            }
            due("the things stay", x.count(1), 3);
        });
    }

    private static void askings() {
        promise(6);
        test("Of a THING MARKS 0 to 3 (what = 0 to 3), OWNER (4), WORTH (5), COST (6), 1 if it has a GUARD (7), BROKEN (8),"
            + " HIDDEN (9), CLAIMED (10), LAST (11).", () -> {
            LastOfKind x = houseOf("K4X09182991X90810110");
            int[] first = {0, 9, 1, 8, 2, 9, 9, 1, 0, 0, 0, 1};
            int[] second = {9, 0, 8, 1, 0, 1, 1, 0, 0, 0, 0, 1};
            for (int what = 0; what <= 11; what++) {
                due("thing(0, " + what + ")", x.thing(0, what), first[what]);
                due("thing(1, " + what + ")", x.thing(1, what), second[what]);
            }
            x.claim(0);
            due("claimed", x.thing(0, 10), 1);
            x.hide(1);
            due("hidden", x.thing(1, 9) * 10 + x.thing(1, 11), 10);
            x.broken(1);
            due("broken, and its mark of being hidden", x.thing(1, 8) * 10 + x.thing(1, 9), 11);
        });
        test("UNKNOWN; OUTSIDE.", () -> {
            LastOfKind x = houseOf(THREE);
            for (int no : new int[] {LEAST, -1, 3, 7, 8, 32, MOST}) {
                due("thing " + no, x.thing(no, 0), UNKNOWN);
                due("thing " + no + ", what outside", x.thing(no, 12), UNKNOWN);
            }
            for (int what : new int[] {LEAST, -1, 12, 16, 32, MOST}) {
                due("what " + what, x.thing(2, what), OUTSIDE);
            }
            due("the last one", x.thing(2, 11), 1);
        });
        promise(7);
        test("Which other ones, SHOWN, are ALIKE to a THING, as bits.", () -> {
            LastOfKind x = forged(4, 1111, 1111, 1111, 1111, 1111, 1111, 1111, 1111);
            due("of eight the first", x.alike(0), 254);
            due("of eight the last", x.alike(7), 127);
            x.hide(7);
            x.broken(6);
            due("without a hidden and a broken one", x.alike(0), 62);
            due("of the hidden one", x.alike(7), 63);
            due("of the broken one", x.alike(6), 63);
            due("alone", forged(1, 1111).alike(0), 0);
        });
        test("UNKNOWN.", () -> {
            LastOfKind x = houseOf(THREE);
            due("below", x.alike(-1), UNKNOWN);
            due("above", x.alike(3), UNKNOWN);
            due("of none", new LastOfKind().alike(0), UNKNOWN);
        });
        promise(8);
        test("PRICE. UNKNOWN.", () -> {
            LastOfKind x = houseOf(THREE);
            due("one of two", x.price(0), 30);
            due("the other", x.price(1), 54);
            due("alone", x.price(2), 12);
            due("below", x.price(-1), UNKNOWN);
            due("above", x.price(3), UNKNOWN);
        });
    }

    // ---- acts

    private static void breaking() {
        promise(9);
        test("BREAK: which are LAST then, as bits.", () -> {
            LastOfKind x = forged(4, 1111, 1111, 1111);
            due("two are left", x.broken(1), 0);
            due("one is left", x.broken(0), 4);
            due("none is left", x.broken(2), 0);
            due("broken", x.count(8), 7);
        });
        test("UNKNOWN;", () -> {
            LastOfKind x = houseOf(THREE);
            for (int no : new int[] {LEAST, -1, 3, 8, 32, MOST}) {
                due("broken " + no, x.broken(no), UNKNOWN);
            }
        });
        test("STATE: it can not be.", () -> {
            LastOfKind x = houseOf(THREE);
            due("guarded", x.broken(0), STATE);
            x.claim(2);
            due("claimed", x.broken(2), STATE);
            due("neither", x.broken(1), 5);
            due("broken", x.broken(1), STATE);
        });
    }

    private static void forging() {
        promise(10);
        test("FORGE: its number.", () -> {
            LastOfKind x = new LastOfKind();
            for (int number = 0; number < 8; number++) {
                due("forge", x.forge(number, number % 3), number);
            }
            x = houseOf(THREE);
            due("behind three", x.forge(0, 0), 3);
        });
        test("OUTSIDE: marks (0 to 9999: four figures), owner (0 to 2);", () -> {
            LastOfKind x = new LastOfKind();
            for (int marks : new int[] {LEAST, -1, 10000, MOST}) {
                due("marks " + marks, x.forge(marks, 0), OUTSIDE);
            }
            for (int owner : new int[] {LEAST, -1, 3, MOST}) {
                due("owner " + owner, x.forge(0, owner), OUTSIDE);
            }
            due("least", x.forge(0, 0), 0);
            due("most", x.forge(9999, 2), 1);
            due("in between", x.forge(1203, 1), 2);
            int[] marks = {0, 9999, 1203};
            int[] owners = {0, 2, 1};
            for (int thing = 0; thing < 3; thing++) {
                due("marks", Sentences.marksOf(x, thing), marks[thing]);
                due("owner", x.thing(thing, 4), owners[thing]);
            }
        });
        test("FULL: there are 8.", () -> {
            LastOfKind x = houseOf("K4X11110110X22220110X33330110X44440110X55550110X66660110");
            due("the seventh", x.forge(7777, 0), 6);
            due("the eighth", x.forge(8888, 0), 7);
            due("the ninth", x.forge(9999, 0), FULL);
            x.broken(0);
            x.hide(1);
            due("a broken and a hidden one count", x.forge(9999, 0), FULL);
            due("things", x.count(1), 8);
        });
    }

    private static void hiding() {
        promise(11);
        test("HIDE: 1 if it is HIDDEN then, 0.", () -> {
            LastOfKind x = houseOf(THREE);
            due("hidden", x.hide(0), 1);
            due("hidden no more", x.hide(0), 0);
            due("hidden again", x.hide(0), 1);
            due("which", x.count(7), 1);
        });
        test("UNKNOWN;", () -> {
            LastOfKind x = houseOf(THREE);
            for (int no : new int[] {LEAST, -1, 3, 8, 32, MOST}) {
                due("hide " + no, x.hide(no), UNKNOWN);
            }
        });
        test("STATE: it is BROKEN, or CLAIMED.", () -> {
            LastOfKind x = forged(4, 1111, 2222, 3333);
            x.broken(0);
            due("broken", x.hide(0), STATE);
            x.claim(1);
            due("claimed", x.hide(1), STATE);
            x.hide(2);
            x.broken(2);
            due("hidden and broken", x.hide(2), STATE);
            x.forge(2222, 0);
            due("claimed no more", x.hide(1), 1);
        });
    }

    private static void claiming() {
        promise(12);
        test("CLAIM: how many are CLAIMED then.", () -> {
            LastOfKind x = forged(4, 0, 1, 2, 3, 4, 5, 6, 7);
            for (int thing = 7; thing >= 0; thing--) {
                due("claimed", x.claim(thing), 8 - thing);
            }
            due("which", x.count(6), 255);
        });
        test("UNKNOWN;", () -> {
            LastOfKind x = houseOf(THREE);
            for (int no : new int[] {LEAST, -1, 3, 8, 32, MOST}) {
                due("claim " + no, x.claim(no), UNKNOWN);
            }
        });
        test("STATE: it is not LAST, or CLAIMED.", () -> {
            LastOfKind x = forged(4, 1111, 1111, 2222, 3333, 4444);
            due("one is alike", x.claim(1), STATE);
            x.hide(3);
            due("hidden", x.claim(3), STATE);
            x.broken(4);
            due("broken", x.claim(4), STATE);
            due("last", x.claim(2), 1);
            due("claimed", x.claim(2), STATE);
            due("claimed ones", x.count(6), 4);
        });
    }

    private static void guarding() {
        promise(13);
        test("GUARD: 1 if it has one then, 0.", () -> {
            LastOfKind x = houseOf(THREE);
            due("it had one", x.guard(0), 0);
            due("it had none", x.guard(0), 1);
            due("another one", x.guard(1), 1);
        });
        test("UNKNOWN;", () -> {
            LastOfKind x = houseOf(THREE);
            for (int no : new int[] {LEAST, -1, 3, 8, 32, MOST}) {
                due("guard " + no, x.guard(no), UNKNOWN);
            }
        });
        test("STATE: it is BROKEN.", () -> {
            LastOfKind x = houseOf(THREE);
            x.broken(1);
            due("broken", x.guard(1), STATE);
            due("it has none", x.thing(1, 7), 0);
            x.hide(2);
            due("hidden", x.guard(2), 1);
        });
    }

    private static void wording() {
        promise(14);
        test("WORD: which were freed, as bits.", () -> {
            LastOfKind x = forged(4, 1111, 1112, 1122, 9999);
            for (int thing = 0; thing < 4; thing++) {
                x.claim(thing);
            }
            due("three are alike by pairs", x.word(3), 7);
            due("one stays", x.count(6), 8);
            due("none is freed twice", x.word(2), 0);
            due("the word", x.count(2), 2);
        });
        test("OUTSIDE: word (1 to 4);", () -> {
            LastOfKind x = new LastOfKind();
            for (int word : new int[] {LEAST, -1, 0, 5, MOST}) {
                due("word " + word, x.word(word), OUTSIDE);
            }
            for (int word = 1; word <= 4; word++) {
                due("word " + word, x.word(word), 0);
                due("the word", x.count(2), word);
            }
        });
        test("STATE: it is so.", () -> {
            LastOfKind x = new LastOfKind();
            due("4 at first", x.word(4), STATE);
            x.word(1);
            due("1 then", x.word(1), STATE);
            due("acts", x.count(9), 1);
            due("2 of a house", houseOf("K2").word(2), STATE);
        });
    }

    private static void years() {
        promise(15);
        test("A YEAR goes by: THE YEAR.", () -> {
            LastOfKind x = new LastOfKind();
            for (int year = 1; year <= 500; year++) {
                due("year", x.year(), year);
            }
            due("count", x.count(3), 500);
            due("undo", x.undo(), 15);
            due("one less", x.count(3), 499);
        });
    }

    private static void undoing() {
        promise(16);
        test("The last ACT is undone: how many are left.", () -> {
            LastOfKind x = houseOf(THREE);
            for (int i = 0; i < 40; i++) {
                x.year();
            }
            for (int left = 15; left >= 0; left--) {
                due("undo", x.undo(), left);
                due("the year", x.count(3), 24 + left);
            }
            x.year();
            x.guard(0);
            due("the row is used again", x.undo(), 1);
            due("the guard is back", x.thing(0, 7), 1);
            due("an undo is no act", x.count(9), 1);
        });
        test("STATE: there is none.", () -> {
            LastOfKind x = new LastOfKind();
            due("at first", x.undo(), STATE);
            x.year();
            x.undo();
            due("after the last one", x.undo(), STATE);
            x.year();
            x.keep(0);
            x.again(0);
            due("after one went on", x.undo(), STATE);
            due("the year stays", x.count(3), 1);
        });
    }

    /** An act as judge tells it. */
    private static boolean acts(LastOfKind x, int act, int thing) {
        switch (act) {
            case 0: return x.broken(thing) >= 0;
            case 1: return x.claim(thing) >= 0;
            case 2: return x.hide(thing) >= 0;
            case 3: return x.guard(thing) >= 0;
            default: return false;
        }
    }

    private static LastOfKind judged() {
        LastOfKind x = houseOf("K3X11110110X11120110X11220111X99990110");
        x.hide(1);
        x.claim(0);
        x.forge(9998, 1);
        x.forge(8888, 2);
        x.forge(7777, 0);
        x.forge(7776, 1);
        x.guard(5);
        x.hide(6);
        return x;
    }

    private static void judging() {
        promise(17);
        test("Of n ACTS (1 to 4) from now on, told as 2 n figures", () -> {
            // Each two acts in a row are judged as they come out if they are done.
            LastOfKind x = judged();
            for (int row = 0; row < 10000; row++) {
                if (row % 100 == 0) {
                    x = judged();
                }
                int[] figures = {row / 1000, row / 100 % 10, row / 10 % 10, row % 10};
                LastOfKind done = judged();
                int first = acts(done, figures[0], figures[1]) ? NONE : 0;
                int second = first == 0 || acts(done, figures[2], figures[3]) ? first : 1;
                due("judge(2, " + row + ")", x.judge(2, row), second);
            }
            x = judged();
            for (int row = 0; row < 100; row++) {
                due("judge(1, " + row + ")", x.judge(1, row), acts(judged(), row / 10, row % 10) ? NONE : 0);
            }
        });
        test("(0 BREAK, 1 CLAIM, 2 HIDE, 3 GUARD; the THING)", () -> {
            LastOfKind x = houseOf(THREE);
            due("break 0, guarded", x.judge(1, 0), 0);
            due("break 1", x.judge(1, 1), NONE);
            due("claim 1, not last", x.judge(1, 11), 0);
            due("claim 2", x.judge(1, 12), NONE);
            due("hide 0", x.judge(1, 20), NONE);
            due("guard 0", x.judge(1, 30), NONE);
        });
        test(", the first one first:", () -> {
            LastOfKind x = houseOf(THREE);
            due("guard 0 goes, break 0, claim 1, claim 2", x.judge(4, 30001112), NONE);
            due("hide 0, claim 1, hide 0, break 1", x.judge(4, 20112001), NONE);
            due("break 0, guard 0 goes", x.judge(2, 30), 0);
            due("claim 1, hide 0", x.judge(2, 1120), 0);
        });
        test("the place (from 0) of the first that can not be", () -> {
            LastOfKind x = houseOf(THREE);
            due("0, guarded", x.judge(4, 121212), 0);
            due("1, claimed twice", x.judge(4, 12121212), 1);
            due("2, the guard came", x.judge(4, 30310112), 2);
            due("3, claimed twice", x.judge(4, 30311212), 3);
        });
        test("(there is no such figure, too)", () -> {
            LastOfKind x = houseOf(THREE);
            for (int act = 4; act <= 9; act++) {
                due("act " + act, x.judge(1, act * 10), 0);
                due("act " + act + " second", x.judge(2, 3000 + act * 10), 1);
            }
            for (int thing = 3; thing <= 9; thing++) {
                due("thing " + thing, x.judge(1, 20 + thing), 0);
                due("thing " + thing + " second", x.judge(2, 3020 + thing), 1);
            }
            due("no things", new LastOfKind().judge(1, 30), 0);
        });
        test("NONE: all can.", () -> {
            LastOfKind x = houseOf(THREE);
            due("one", x.judge(1, 12), NONE);
            due("two", x.judge(2, 1201), NONE);
            due("three", x.judge(3, 120130), NONE);
            due("four", x.judge(4, 12013030), NONE);
            due("none was done", x.count(9) + x.count(8) + x.count(6), 0);
        });
        test("OUTSIDE: n, row (0 or more, 2 n figures at most).", () -> {
            LastOfKind x = houseOf(THREE);
            for (int n : new int[] {LEAST, -1, 0, 5, 8, MOST}) {
                due("n " + n, x.judge(n, 12), OUTSIDE);
                due("n " + n + ", row 0", x.judge(n, 0), OUTSIDE);
            }
            int bound = 1;
            for (int n = 1; n <= 4; n++) {
                bound *= 100;
                due("row -1, n " + n, x.judge(n, -1), OUTSIDE);
                due("least row, n " + n, x.judge(n, LEAST), OUTSIDE);
                due("row " + bound + ", n " + n, x.judge(n, bound), OUTSIDE);
                due("most row, n " + n, x.judge(n, MOST), OUTSIDE);
                due("row " + (bound - 1) + ", n " + n, x.judge(n, bound - 1), 0);
                due("row 0, n " + n, x.judge(n, 0), 0);
            }
        });
    }

    // ---- plans

    private static void campaigns() {
        promise(18);
        test("CAMPAIGN; NONE.", () -> {
            LastOfKind x = houseOf(THREE);
            due("8 by 3, 3 by 4", x.campaign(0), 3);
            due("1 + 5 by 3, 3 by 4", x.campaign(1), 3);
            due("last as it is", x.campaign(2), 0);
            // By THE WORD of now no claimed one is alike, so a campaign there is for all that are shown.
            x.word(4);
            x.claim(0);
            x.claim(2);
            due("beside a claimed one", x.campaign(1), 0);
        });
        test("UNKNOWN; STATE: it is not SHOWN.", () -> {
            LastOfKind x = houseOf(THREE);
            for (int no : new int[] {LEAST, -1, 3, 8, 32, MOST}) {
                due("campaign " + no, x.campaign(no), UNKNOWN);
            }
            x.hide(0);
            due("hidden", x.campaign(0), STATE);
            x.broken(1);
            due("broken", x.campaign(1), STATE);
            due("shown", x.campaign(2), 0);
        });
        promise(19);
        test("OF CAMPAIGNS: its WORD (what = 0), what is broken by it (1: bits);", () -> {
            LastOfKind x = houseOf("K3X12340110X12350120X12340110X77770110");
            due("2 + 1 by 3, 3 + 1 by 4", x.campaign(0), 3);
            due("the word", x.campaignBy(0, 0), 3);
            due("broken", x.campaignBy(0, 1), 6);
            due("of one that is last: the word of now", x.campaignBy(3, 0), 3);
            due("nothing is broken", x.campaignBy(3, 1), 0);
        });
        test("NONE. UNKNOWN; OUTSIDE; STATE.", () -> {
            LastOfKind x = houseOf(THREE);
            for (int no : new int[] {LEAST, -1, 3, 8, MOST}) {
                due("thing " + no, x.campaignBy(no, 2), UNKNOWN);
            }
            x.hide(0);
            x.broken(1);
            for (int what : new int[] {LEAST, -1, 2, MOST}) {
                due("what " + what, x.campaignBy(2, what), OUTSIDE);
                due("hidden, what " + what, x.campaignBy(0, what), OUTSIDE);
            }
            due("hidden", x.campaignBy(0, 0), STATE);
            due("broken", x.campaignBy(1, 1), STATE);
            due("shown", x.campaignBy(2, 0), 3);
        });
    }

    private static void copies() {
        promise(20);
        test("COPY, as bits of MARKS; NONE.", () -> {
            LastOfKind x = forged(4, 1234, 1244);
            x.claim(0);
            due("by 4", x.copy(0), 15);
            x.hide(1);
            x.word(2);
            due("by 2", x.copy(0), 3);
        });
        test("UNKNOWN; STATE: it is not CLAIMED.", () -> {
            LastOfKind x = houseOf(THREE);
            for (int no : new int[] {LEAST, -1, 3, 8, 32, MOST}) {
                due("copy " + no, x.copy(no), UNKNOWN);
            }
            due("last, not claimed", x.copy(2), STATE);
            x.claim(2);
            due("claimed", x.copy(2), 7);
            x.forge(7777, 0);
            due("freed", x.copy(2), STATE);
        });
    }

    private static void words() {
        promise(21);
        test("THE BEST WORD (what = 0), how many are LAST by it (1).", () -> {
            LastOfKind x = houseOf(THREE);
            due("the word", x.bestWord(0), 4);
            due("three", x.bestWord(1), 3);
            due("the word of no things", new LastOfKind().bestWord(0), 4);
            due("none of no things", new LastOfKind().bestWord(1), 0);
        });
        test("OUTSIDE.", () -> {
            LastOfKind x = houseOf(THREE);
            for (int what : new int[] {LEAST, -1, 2, MOST}) {
                due("what " + what, x.bestWord(what), OUTSIDE);
            }
        });
    }

    private static void rests() {
        promise(22);
        test("RESTS: how many (what = 0), what OWNERS 0 to 2 choose in the first one (1 to 3: a THING; NONE: none),", () -> {
            // Owner 0 breaks 2 (18 - 1 more than 36), owner 1 breaks 3; thing 0 and 1 are guarded.
            LastOfKind x = houseOf("K4X11110911X22221911X11112110X22222110");
            due("how many", x.rests(0), 1);
            due("owner 0", x.rests(1), 2);
            due("owner 1", x.rests(2), 3);
            due("owner 2", x.rests(3), NONE);
            LastOfKind zero = houseOf("K4X11110110X11112911");
            due("thing 0 is a thing", zero.rests(3), 0);
            due("owner 0 has none to break", zero.rests(1), NONE);
            // The forged ones, 6 and 7, are those that are alike to 0 and to 1.
            LastOfKind last = houseOf("K4X11110911X22221911X33332911X44442111X55552111X66662111");
            last.forge(2222, 2);
            last.forge(1111, 2);
            due("by owner 0", last.rests(1), 7);
            due("by owner 1", last.rests(2), 6);
            last.undo();
            last.forge(3333, 1);
            due("by owner 2", last.rests(3), 7);
            due("by owner 0 now", last.rests(1), NONE);
        });
        test("whether there is one (4: 1, 0).", () -> {
            due("of no things", new LastOfKind().rests(4), 1);
            // Owner 2 breaks 0 or 1; without its guard it can be broken itself.
            LastOfKind none = houseOf("K4X11110910X11111910X11112911");
            due("two rest", none.rests(0), 2);
            due("there is one", none.rests(4), 1);
            due("owner 2 breaks 0", none.rests(3), 0);
            none.guard(2);
            due("none", none.rests(4), 0);
            due("how many", none.rests(0), 0);
            due("owner 0", none.rests(1), NONE);
            due("owner 1", none.rests(2), NONE);
            due("owner 2", none.rests(3), NONE);
        });
        test("OUTSIDE.", () -> {
            LastOfKind x = houseOf(THREE);
            for (int what : new int[] {LEAST, -1, 5, MOST}) {
                due("what " + what, x.rests(what), OUTSIDE);
            }
        });
    }

    // ---- sightings

    private static void sights() {
        promise(23);
        test("SIGHTED: how many there are.", () -> {
            LastOfKind x = houseOf(THREE);
            for (int i = 1; i <= 6; i++) {
                due("sight", x.sight(i % 3, i, i % 2 == 0), i);
            }
            due("count", x.count(10), 6);
        });
        test("UNKNOWN;", () -> {
            LastOfKind x = houseOf(THREE);
            for (int no : new int[] {LEAST, -1, 3, 8, 32, MOST}) {
                due("sight " + no, x.sight(no, 0, true), UNKNOWN);
            }
            x.broken(1);
            due("a broken one is known", x.sight(1, 0, true), 1);
        });
        test("OUTSIDE: k (0 to 8);", () -> {
            LastOfKind x = houseOf(THREE);
            for (int k : new int[] {LEAST, -1, 9, MOST}) {
                due("k " + k, x.sight(0, k, true), OUTSIDE);
                due("less than k " + k, x.sight(0, k, false), OUTSIDE);
            }
            due("k 0", x.sight(0, 0, true), 1);
            due("k 8", x.sight(0, 8, false), 2);
            due("both are so", x.worlds(0), 1);
        });
        test("FULL: 6.", () -> {
            LastOfKind x = houseOf(THREE);
            for (int i = 0; i < 5; i++) {
                x.sight(0, 0, true);
            }
            due("the sixth", x.sight(0, 0, true), 6);
            due("the seventh", x.sight(0, 0, true), FULL);
            due("count", x.count(10), 6);
        });
        promise(24);
        test("Nothing is SIGHTED: how many there were.", () -> {
            LastOfKind x = houseOf(THREE);
            due("none", x.unsight(), 0);
            x.sight(0, 8, true);
            due("no world", x.worlds(0), 0);
            due("one", x.unsight(), 1);
            due("count", x.count(10), 0);
            due("a world", x.worlds(0), 1);
            for (int i = 0; i < 6; i++) {
                x.sight(0, 0, true);
            }
            due("six", x.unsight(), 6);
        });
    }

    private static void worlds() {
        promise(25);
        test("WORLDS: how many (what = 0), HIDDEN ones in all (1), in none (2), as bits;", () -> {
            LastOfKind x = forged(4, 0, 1, 2, 3, 4, 5, 6, 7);
            due("none is hidden", x.worlds(0), 1);
            for (int thing = 0; thing < 8; thing++) {
                x.hide(thing);
                due("hidden are " + (thing + 1), x.worlds(0), 2 << thing);
            }
            x.sight(7, 1, true);
            x.sight(6, 1, false);
            due("two are sure", x.worlds(0), 64);
            due("in all", x.worlds(1), 128);
            due("in none", x.worlds(2), 64);
        });
        test("NONE (of 1, 2): there is none.", () -> {
            LastOfKind x = houseOf(THREE);
            x.sight(0, 0, false);
            due("how many", x.worlds(0), 0);
            due("in all", x.worlds(1), NONE);
            due("in none", x.worlds(2), NONE);
            x.unsight();
            due("in all of one world", x.worlds(1), 0);
            due("in none of one world", x.worlds(2), 0);
        });
        test("OUTSIDE.", () -> {
            LastOfKind x = houseOf(THREE);
            x.sight(0, 0, false);
            for (int what : new int[] {LEAST, -1, 3, MOST}) {
                due("what " + what, x.worlds(what), OUTSIDE);
            }
        });
        promise(26);
        test("TO SEEK; NONE.", () -> {
            LastOfKind x = forged(4, 1111, 1111, 1111, 2222);
            due("none is hidden", x.toSeek(), NONE);
            for (int thing = 0; thing < 4; thing++) {
                x.hide(thing);
            }
            due("all are like", x.toSeek(), 0);
            // At least two of 0, 1, 2 are there: each of them in three of four, 3 in half.
            x.sight(0, 2, true);
            due("3 tells most", x.toSeek(), 3);
            x.sight(3, 1, true);
            due("3 is sure", x.toSeek(), 0);
            x.sight(3, 1, false);
            due("no world", x.toSeek(), NONE);
            due("no things", new LastOfKind().toSeek(), NONE);
        });
    }

    // ---- museums, chances

    private static void turns() {
        promise(27);
        test("by how much (what = 0), what it does first (1; 0 if n is 0).", () -> {
            LastOfKind x = houseOf("K4X11110210X22220910");
            due("no turns", x.byTurns(0, 0), 1000);
            due("no turns, first", x.byTurns(0, 1), 0);
            due("one turn", x.byTurns(1, 0), 1009);
            due("one turn, first", x.byTurns(1, 1), 2);
            due("two turns", x.byTurns(2, 0), 1007);
            due("three turns", x.byTurns(3, 0), 1007);
            due("four turns", x.byTurns(4, 0), 1007);
            due("four turns, first", x.byTurns(4, 1), 2);
        });
        test("OUTSIDE: n, what.", () -> {
            LastOfKind x = houseOf(THREE);
            for (int n : new int[] {LEAST, -1, 5, MOST}) {
                due("n " + n, x.byTurns(n, 0), OUTSIDE);
            }
            for (int what : new int[] {LEAST, -1, 2, MOST}) {
                due("what " + what, x.byTurns(4, what), OUTSIDE);
            }
        });
        // All are alike, so there is nothing to claim, and five breaks would be needed ahead of it.
        test("TWO MUSEUMS:", () -> {
            LastOfKind x = houseOf("K1X11110990X11110990X11110990X11110990X11110990X11110990");
            for (int n = 0; n <= 4; n++) {
                due("all alike", x.byTurns(n, 0), 1000);
                due("all alike, first", x.byTurns(n, 1), 0);
            }
        });
    }

    private static void chances() {
        promise(28);
        test("CHANCE. UNKNOWN; OUTSIDE: x.", () -> {
            LastOfKind x = houseOf(THREE);
            due("one of two, guarded", x.chance(0, 3, true), 3);
            due("one of two, guarded, below", x.chance(0, 3, false), 10);
            for (int no : new int[] {LEAST, -1, 3, 8, 32, MOST}) {
                due("thing " + no, x.chance(no, 0, true), UNKNOWN);
                due("thing " + no + ", x outside", x.chance(no, -1, false), UNKNOWN);
            }
            for (int tenths : new int[] {LEAST, -1, 11, MOST}) {
                due("x " + tenths, x.chance(2, tenths, true), OUTSIDE);
                due("x " + tenths + ", below", x.chance(2, tenths, false), OUTSIDE);
            }
            due("x 0", x.chance(2, 0, true), 1);
            due("x 10", x.chance(2, 10, true), 0);
            due("x 10, below", x.chance(2, 10, false), 1);
        });
    }

    private static void seeds() {
        promise(29);
        test("THE SEED is v: what it was.", () -> {
            LastOfKind x = new LastOfKind();
            long was = 0;
            for (long v : new long[] {Long.MAX_VALUE, Long.MIN_VALUE, -1, 1, 1L << 32, 0}) {
                due("seed(" + v + ")", x.seed(v), was);
                was = v;
            }
            due("another object's", new LastOfKind().seed(5), 0);
        });
        promise(30);
        test("YEARS, as bits. OUTSIDE: m, t.", () -> {
            LastOfKind x = houseOf(THREE);
            due("0 is guarded, 1 and 2 go", x.years(1, 10), 1);
            due("none goes", x.years(1, 0), 4);
            x.seed(9);
            for (int m : new int[] {LEAST, -1, 0, 31, MOST}) {
                due("m " + m, x.years(m, 5), OUTSIDE);
            }
            for (int t : new int[] {LEAST, -1, 11, MOST}) {
                due("t " + t, x.years(5, t), OUTSIDE);
            }
            due("the seed stays", x.seed(0), 9);
            due("m 30, t 10", x.years(30, 10), 1);
            due("no things", new LastOfKind().years(30, 10), 0);
        });
    }

    // ---- slots

    private static void slots() {
        promise(31);
        test("They are kept: how many THINGS there are. UNKNOWN.", () -> {
            LastOfKind x = houseOf(THREE);
            due("three", x.keep(0), 3);
            x.forge(1, 1);
            due("four", x.keep(1), 4);
            due("four, kept over", x.keep(0), 4);
            due("none", new LastOfKind().keep(1), 0);
            for (int no : new int[] {LEAST, -1, 2, 32, MOST}) {
                due("slot " + no, x.keep(no), UNKNOWN);
            }
            due("a keeping is no act", x.count(9), 1);
        });
        promise(32);
        test("They are as they were kept: how many THINGS there are.", () -> {
            LastOfKind x = houseOf(THREE);
            x.keep(1);
            x.forge(1, 1);
            x.broken(1);
            x.claim(2);
            x.word(1);
            x.year();
            due("three", x.again(1), 3);
            due("as they were", x.count(2) * 1000 + x.count(3) * 100 + x.count(6) * 10 + x.count(8), 3000);
            x.broken(2);
            due("once more", x.again(1), 3);
            due("the slot was not broken", x.count(8), 0);
            x.seed(5);
            x.sight(0, 1, true);
            x.keep(0);
            due("a keeping leaves the seed", x.seed(6), 5);
            x.sight(1, 1, true);
            x.again(0);
            due("what is sighted is not kept", x.count(10), 2);
            due("nor the seed", x.seed(0), 6);
            due("nor the text", x.count(0), 29);
            LastOfKind none = new LastOfKind();
            none.keep(0);
            none.forge(1, 1);
            due("none", none.again(0), 0);
        });
        test("UNKNOWN; STATE: none were kept.", () -> {
            LastOfKind x = houseOf(THREE);
            for (int no : new int[] {LEAST, -1, 2, 32, MOST}) {
                due("slot " + no, x.again(no), UNKNOWN);
            }
            due("slot 0", x.again(0), STATE);
            due("slot 1", x.again(1), STATE);
            x.keep(1);
            due("slot 0, only 1 was kept", x.again(0), STATE);
            x.house();
            due("slot 1, the house is anew", x.again(1), STATE);
        });
    }

    private static void counts() {
        promise(33);
        test("0 letters of THE TEXT, 1 THINGS, 2 THE WORD, 3 THE YEAR, 4 those SHOWN (bits), 5 LAST ones (bits), 6 CLAIMED ones"
            + " (bits), 7 HIDDEN ones that are THERE (bits), 8 BROKEN ones (bits), 9 ACTS in the row, 10 SIGHTED.", () -> {
            LastOfKind x = houseOf("K2X11110110X22220110X33330110X44440110X55550110X66660110");
            x.hide(0);
            x.hide(1);
            x.broken(1);
            x.claim(2);
            x.year();
            x.sight(1, 1, true);
            x.sight(1, 1, true);
            x.wipe();
            x.write('K');
            int[] want = {1, 6, 2, 1, 60, 60, 4, 1, 2, 5, 2};
            for (int what = 0; what <= 10; what++) {
                due("count " + what, x.count(what), want[what]);
            }
        });
        test("OUTSIDE.", () -> {
            LastOfKind x = houseOf(THREE);
            for (int what : new int[] {LEAST, -1, 11, 32, MOST}) {
                due("count " + what, x.count(what), OUTSIDE);
            }
        });
    }
}
