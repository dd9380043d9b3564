import java.math.BigInteger;

/** The sentences under 'Terms', each by itself, with answers worked out by hand. */
final class TermsSentences {
    private static final int UNKNOWN = -1, OUTSIDE = -2, STATE = -3, FULL = -4, NONE = -9;
    private static final int LEAST = Integer.MIN_VALUE, MOST = Integer.MAX_VALUE;
    /** Six things of which the first is told by marks 1, 2, 3, 4. */
    private static final String SIX = "K2X12340561X00000110X99992991X12001450X55552120X77770361";

    private TermsSentences() {
    }

    static void run() {
        Sentences.terms();
        refusals();
        fractions();
        letters();
        faults();
        beginnings();
        likeness();
        acts();
        frees();
        row();
        prices();
        campaigns();
        copies();
        words();
        rests();
        sightings();
        museums();
        chances();
        years();
        slots();
    }

    private static void test(String words, Runnable test) {
        Sentences.test(words, test);
    }

    private static void due(String call, long got, long want) {
        Sentences.due(call, got, want);
    }

    private static LastOfKind houseOf(String text) {
        return Sentences.houseOf(text);
    }

    private static LastOfKind forged(int word, int... marks) {
        return Sentences.forged(word, marks);
    }

    // ---- refusals

    private static void refusals() {
        test("REFUSALS, of several the first that a call names", () -> {
            LastOfKind x = houseOf(SIX);
            x.broken(1);
            due("thing(6, 12)", x.thing(6, 12), UNKNOWN);
            due("campaignBy(6, 2)", x.campaignBy(6, 2), UNKNOWN);
            due("campaignBy(1, 2), broken", x.campaignBy(1, 2), OUTSIDE);
            due("campaignBy(1, 1), broken", x.campaignBy(1, 1), STATE);
            due("chance(6, 11, false)", x.chance(6, 11, false), UNKNOWN);
            for (int i = 0; i < 6; i++) {
                x.sight(0, 1, true);
            }
            due("sight(6, 9, true), six", x.sight(6, 9, true), UNKNOWN);
            due("sight(1, 9, true), six", x.sight(1, 9, true), OUTSIDE);
            due("sight(1, 8, true), six", x.sight(1, 8, true), FULL);
            x.forge(1, 1);
            x.forge(1, 1);
            due("forge(10000, 0), eight", x.forge(10000, 0), OUTSIDE);
            due("forge(0, 3), eight", x.forge(0, 3), OUTSIDE);
            due("forge(9999, 2), eight", x.forge(9999, 2), FULL);
            due("write(256), 56", x.write(256), OUTSIDE);
            due("write(255), 56", x.write(255), FULL);
        });
        test("UNKNOWN (there is no such THING, SLOT)", () -> {
            LastOfKind x = houseOf(SIX);
            for (int no : new int[] {LEAST, -1, 6, 7, 8, 32, 37, MOST}) {
                due("thing " + no, x.thing(no, 0), UNKNOWN);
                due("alike " + no, x.alike(no), UNKNOWN);
                due("price " + no, x.price(no), UNKNOWN);
                due("broken " + no, x.broken(no), UNKNOWN);
                due("hide " + no, x.hide(no), UNKNOWN);
                due("claim " + no, x.claim(no), UNKNOWN);
                due("guard " + no, x.guard(no), UNKNOWN);
                due("campaign " + no, x.campaign(no), UNKNOWN);
                due("campaignBy " + no, x.campaignBy(no, 0), UNKNOWN);
                due("copy " + no, x.copy(no), UNKNOWN);
                due("sight " + no, x.sight(no, 0, true), UNKNOWN);
                due("chance " + no, x.chance(no, 0, true), UNKNOWN);
            }
            for (int no : new int[] {LEAST, -1, 2, 32, 33, MOST}) {
                due("keep " + no, x.keep(no), UNKNOWN);
                due("again " + no, x.again(no), UNKNOWN);
            }
            due("the last thing", x.thing(5, 0), 7);
            due("the last slot", x.keep(1), 6);
        });
        test("OUTSIDE (another number is not as told)", () -> {
            LastOfKind x = houseOf(SIX);
            due("rests", x.rests(-1) + x.rests(5), 2 * OUTSIDE);
            due("bestWord", x.bestWord(-1) + x.bestWord(2), 2 * OUTSIDE);
            due("worlds", x.worlds(-1) + x.worlds(3), 2 * OUTSIDE);
            due("count", x.count(-1) + x.count(11), 2 * OUTSIDE);
            due("thing", x.thing(5, -1) + x.thing(5, 12), 2 * OUTSIDE);
            due("byTurns", x.byTurns(0, -1) + x.byTurns(0, 2), 2 * OUTSIDE);
            due("campaignBy", x.campaignBy(0, -1) + x.campaignBy(0, 2), 2 * OUTSIDE);
        });
        test("STATE (as told), FULL.", () -> {
            LastOfKind x = new LastOfKind();
            due("house()", x.house(), STATE);
            due("undo()", x.undo(), STATE);
            due("word(4)", x.word(4), STATE);
            due("again(1)", x.again(1), STATE);
            for (int i = 0; i < 8; i++) {
                x.forge(i, 0);
            }
            due("forge(8, 0)", x.forge(8, 0), FULL);
        });
        test("NONE is -9.", () -> {
            due("UNKNOWN", LastOfKind.UNKNOWN, -1);
            due("OUTSIDE", LastOfKind.OUTSIDE, -2);
            due("STATE", LastOfKind.STATE, -3);
            due("FULL", LastOfKind.FULL, -4);
            due("NONE", LastOfKind.NONE, -9);
            due("fault of K4", Sentences.told("K4").fault(), -9);
        });
    }

    private static void fractions() {
        test("FRACTIONS are told above (upper = true), below (1 and more), in least terms;", () -> {
            LastOfKind x = forged(4, 1111, 2222, 2222, 3333);
            x.guard(3);
            fraction(x, "never", 0, 10, 0, 1);
            fraction(x, "always", 3, 10, 1, 1);
            fraction(x, "six of ten", 0, 4, 3, 5);
            fraction(x, "five of ten", 0, 5, 1, 2);
            fraction(x, "three of ten", 0, 7, 3, 10);
            fraction(x, "two tenths times eight tenths", 1, 8, 4, 25);
            fraction(x, "none can be broken", 1, 0, 0, 1);
        });
        test("refusals of them are told likewise.", () -> {
            LastOfKind x = forged(4, 1111);
            due("chance(1, 0, true)", x.chance(1, 0, true), UNKNOWN);
            due("chance(1, 0, false)", x.chance(1, 0, false), UNKNOWN);
            due("chance(0, 11, true)", x.chance(0, 11, true), OUTSIDE);
            due("chance(0, 11, false)", x.chance(0, 11, false), OUTSIDE);
            due("chance(0, -1, true)", x.chance(0, -1, true), OUTSIDE);
            due("chance(0, -1, false)", x.chance(0, -1, false), OUTSIDE);
        });
    }

    private static void fraction(LastOfKind x, String what, int thing, int tenths, int above, int below) {
        due(what + ", above", x.chance(thing, tenths, true), above);
        due(what + ", below", x.chance(thing, tenths, false), below);
    }

    // ---- the text

    private static void faultOf(String text, int want) {
        due("fault of '" + text + "'", Sentences.told(text).fault(), want);
    }

    private static void letters() {
        test("THE TEXT is letters (56 at most).", () -> {
            LastOfKind x = new LastOfKind();
            for (int i = 1; i <= 56; i++) {
                due("letter " + i, x.write(i), i);
            }
            due("the 57th", x.write('K'), FULL);
            due("letters", x.count(0), 56);
        });
        test("A HOUSE is a TEXT: K,", () -> {
            faultOf("J", 0);
            faultOf("L", 0);
            faultOf("K", 1);
        });
        test("THE WORD (1 to 4), then", () -> {
            faultOf("K0", 1);
            faultOf("K1", NONE);
            faultOf("K4", NONE);
            faultOf("K5", 1);
            for (int word = 1; word <= 4; word++) {
                due("the word", houseOf("K" + word).count(2), word);
            }
        });
        test("THINGS, none or more (6 at most, numbered as they are told)", () -> {
            due("none", houseOf("K4").count(1), 0);
            due("one", houseOf(SIX.substring(0, 11)).count(1), 1);
            LastOfKind x = houseOf(SIX);
            due("six", x.count(1), 6);
            int[] marks = {1234, 0, 9999, 1200, 5555, 7777};
            for (int thing = 0; thing < 6; thing++) {
                due("marks of " + thing, Sentences.marksOf(x, thing), marks[thing]);
            }
            due("no seventh letter row", x.write('X'), FULL);
        });
        test("X, four MARKS (figures)", () -> {
            faultOf("K4W", 2);
            faultOf("K4Y", 2);
            faultOf("K4X09", 5);
            faultOf("K4X0909", 7);
            for (int mark = 0; mark < 4; mark++) {
                String ahead = "K4X0909".substring(0, 3 + mark);
                faultOf(ahead + "/", 3 + mark);
                faultOf(ahead + "0", 4 + mark);
                faultOf(ahead + "9", 4 + mark);
                faultOf(ahead + ":", 3 + mark);
            }
        });
        test("OWNER (0 to 2)", () -> edges("K4X0000", '0', '2'));
        test("WORTH (1 to 9)", () -> edges("K4X00000", '1', '9'));
        test("COST (1 to 9)", () -> edges("K4X000001", '1', '9'));
        test("GUARD (0, 1).", () -> edges("K4X0000011", '0', '1'));
    }

    /** Behind a text stands a letter from the one to the other, and no other letter. */
    private static void edges(String ahead, int from, int to) {
        for (int letter = 0; letter < 256; letter++) {
            boolean fits = letter >= from && letter <= to;
            int ended = ahead.length() + 1 == 11 ? NONE : ahead.length() + 1;
            faultOf(ahead + (char) letter, fits ? ended : ahead.length());
        }
    }

    private static boolean mayStand(int place, int letter) {
        String least = "X00000110";
        String most = "X99992991";
        if (place < 2) {
            return place == 0 ? letter == 'K' : letter >= '1' && letter <= '4';
        }
        return letter >= least.charAt((place - 2) % 9) && letter <= most.charAt((place - 2) % 9);
    }

    private static void faults() {
        test("FAULT: the place of the first letter by which THE TEXT can be no HOUSE, whatever came behind it", () -> {
            for (int place = 0; place < 56; place++) {
                for (int letter = 0; letter < 256; letter++) {
                    int want = mayStand(place, letter) ? NONE : place;
                    faultOf(SIX.substring(0, place) + (char) letter + SIX.substring(place + 1), want);
                }
            }
            faultOf("?4?", 0);
            faultOf("K?X?", 1);
            faultOf("K4?0000????", 2);
        });
        test("(its length set aside)", () -> {
            // 56 letters end a sixth thing; one letter less has no fault but that it is not at its end.
            faultOf(SIX.substring(0, 55), 55);
            faultOf(SIX, NONE);
            faultOf("K", 1);
        });
        test("its length, if it is only not at its end; NONE: none.", () -> {
            for (int length = 0; length <= 56; length++) {
                boolean ends = length >= 2 && (length - 2) % 9 == 0;
                faultOf(SIX.substring(0, length), ends ? NONE : length);
            }
        });
    }

    private static void beginnings() {
        test("At first THE WORD is 4, there are no THINGS.", () -> {
            LastOfKind x = new LastOfKind();
            due("the word", x.count(2), 4);
            due("things", x.count(1), 0);
            due("shown", x.count(4), 0);
        });
        test("Nothing is BROKEN, HIDDEN, CLAIMED, THE YEAR is 0, and when THE HOUSE is made anew.", () -> {
            LastOfKind x = new LastOfKind();
            due("at first", x.count(3) + x.count(6) + x.count(7) + x.count(8), 0);
            Sentences.tell(x, SIX.substring(0, 38));
            x.house();
            x.year();
            x.broken(3);
            x.claim(1);
            x.hide(2);
            due("ahead", x.count(3) * 1000 + x.count(6) * 100 + x.count(7) * 10 + x.count(8), 1000 + 200 + 40 + 8);
            due("anew", x.house(), 4);
            due("the year", x.count(3), 0);
            due("claimed", x.count(6), 0);
            due("hidden", x.count(7), 0);
            due("broken", x.count(8), 0);
            for (int thing = 0; thing < 4; thing++) {
                due("marks of it", x.thing(thing, 8) + x.thing(thing, 9) + x.thing(thing, 10), 0);
            }
            due("all are shown", x.count(4), 15);
        });
    }

    // ---- which are alike

    private static void likeness() {
        test("Two THINGS are ALIKE, if of their four MARKS at least as many as THE WORD are the same", () -> {
            for (int same = 0; same < 16; same++) {
                int other = 0;
                for (int mark = 0; mark < 4; mark++) {
                    other = other * 10 + ((same >> mark & 1) == 1 ? 1 + mark : 6 + mark);
                }
                for (int word = 1; word <= 4; word++) {
                    boolean alike = Integer.bitCount(same) >= word;
                    LastOfKind x = forged(word, 1234, other);
                    due("1234 and " + other + " by " + word, x.alike(0), alike ? 2 : 0);
                    due(other + " and 1234 by " + word, x.alike(1), alike ? 1 : 0);
                    due("none of these is last by " + word, x.count(5), alike ? 0 : 3);
                }
            }
        });
        test("(each MARK with the one at its place)", () -> {
            due("turned about", forged(1, 1234, 4321).alike(0), 0);
            due("moved on", forged(1, 1234, 2341).alike(0), 0);
            due("one at its place", forged(1, 1234, 4231).alike(0), 2);
            due("0 and 9", forged(1, 0, 9999).alike(0), 0);
        });
        test("A THING is THERE, if it is not BROKEN, SHOWN, if it is THERE and not HIDDEN.", () -> {
            LastOfKind x = forged(4, 1111, 2222, 3333, 4444);
            x.hide(1);
            x.broken(2);
            x.hide(3);
            x.broken(3);
            due("shown", x.count(4), 1);
            due("hidden and there", x.count(7), 2);
            due("broken", x.count(8), 12);
        });
        test("It is LAST, if it is SHOWN, and no other one that is SHOWN is ALIKE.", () -> {
            LastOfKind x = forged(4, 1111, 1111, 2222);
            due("two are alike", x.count(5), 4);
            x.hide(0);
            due("one of them is hidden", x.count(5), 6);
            due("the hidden one", x.thing(0, 11), 0);
            x.hide(1);
            due("both are hidden", x.count(5), 4);
            x.hide(0);
            x.broken(1);
            due("one is broken", x.count(5), 5);
            due("the broken one", x.thing(1, 11), 0);
            x.claim(2);
            due("a claimed one is last", x.thing(2, 11), 1);
        });
    }

    // ---- acts

    private static void acts() {
        test("BREAK: a THING that is THERE (HIDDEN or not), not CLAIMED, without a GUARD.", () -> {
            LastOfKind x = forged(4, 1111, 2222, 3333, 4444);
            x.hide(0);
            due("a hidden one", x.broken(0), 14);
            due("a shown one", x.broken(1), 12);
            due("a broken one", x.broken(1), STATE);
            x.claim(2);
            due("a claimed one", x.broken(2), STATE);
            x.guard(3);
            due("a guarded one", x.broken(3), STATE);
            x.hide(3);
            due("a guarded and hidden one", x.broken(3), STATE);
            x.guard(3);
            due("without a guard", x.broken(3), 4);
        });
        test("FORGE: a THING more (8 in all at most), behind the others, with told MARKS, of a told OWNER, WORTH 1, COST 1,"
            + " no GUARD, SHOWN", () -> {
            LastOfKind x = houseOf(SIX);
            due("the seventh", x.forge(4905, 2), 6);
            int[] want = {4, 9, 0, 5, 2, 1, 1, 0, 0, 0, 0, 1};
            for (int what = 0; what < 12; what++) {
                due("thing(6, " + what + ")", x.thing(6, what), want[what]);
            }
            due("the eighth", x.forge(0, 0), 7);
            due("the ninth", x.forge(0, 0), FULL);
            x.broken(7);
            due("one of eight is broken", x.forge(0, 0), FULL);
            x.undo();
            x.undo();
            due("seven again", x.forge(9999, 1), 7);
            due("its marks", Sentences.marksOf(x, 7), 9999);
        });
        test("HIDE: a THING that is SHOWN and not CLAIMED is HIDDEN,", () -> {
            LastOfKind x = forged(4, 1111, 2222);
            due("a shown one", x.hide(0), 1);
            x.claim(1);
            due("a claimed one", x.hide(1), STATE);
            due("hidden", x.count(7), 1);
            LastOfKind guarded = houseOf("K4X11110111");
            due("a guarded one", guarded.hide(0), 1);
        });
        test("CLAIM: a THING that is LAST and not CLAIMED.", () -> {
            LastOfKind x = forged(4, 1111, 1111, 2222, 3333, 4444);
            due("one that is alike", x.claim(0), STATE);
            due("the last one", x.claim(2), 1);
            due("a claimed one", x.claim(2), STATE);
            x.hide(3);
            due("a hidden one", x.claim(3), STATE);
            x.broken(4);
            due("a broken one", x.claim(4), STATE);
        });
        test("GUARD: a THING that is THERE has one if it had none, none if it had one.", () -> {
            LastOfKind x = houseOf("K4X11110111X22220110X33330110");
            due("it had one", x.guard(0), 0);
            due("it had none", x.guard(1), 1);
            x.hide(1);
            due("a hidden one", x.guard(1), 0);
            x.claim(0);
            due("a claimed one", x.guard(0), 1);
            x.broken(2);
            due("a broken one", x.guard(2), STATE);
        });
        test("A YEAR goes by: THE YEAR is one more.", () -> {
            LastOfKind x = new LastOfKind();
            for (int year = 1; year <= 300; year++) {
                due("the year", x.year(), year);
            }
            due("the year", x.count(3), 300);
        });
    }

    private static void frees() {
        test("each CLAIMED THING that is ALIKE is CLAIMED no more (it is freed).", () -> {
            LastOfKind x = forged(2, 1111, 1222, 2233, 9999);
            for (int thing = 0; thing < 4; thing++) {
                due("claimed", x.claim(thing), thing + 1);
            }
            // 1178 shares two marks with 1111 and one with 1222.
            x.forge(1178, 0);
            due("the one that is alike", x.count(6), 14);
            due("it can be broken now", x.broken(0), 30);
            // 1233 shares two marks with 1222 and three with 2233.
            x.forge(1233, 0);
            due("two of them", x.count(6), 8);
        });
        test("or a HIDDEN one that is THERE is HIDDEN no more (a CLAIMED one that is ALIKE is freed then).", () -> {
            LastOfKind x = forged(3, 1111, 1112, 1222, 5555);
            x.hide(0);
            x.claim(1);
            x.claim(2);
            x.claim(3);
            due("hidden no more", x.hide(0), 0);
            due("the one that is alike is freed", x.count(6), 12);
            x.hide(0);
            x.broken(0);
            due("broken meanwhile", x.hide(0), STATE);
        });
        test("WORD: THE WORD is another one (1 to 4; then each CLAIMED THING that is not LAST is freed).", () -> {
            LastOfKind x = forged(4, 1111, 1112, 5555, 1666);
            x.hide(1);
            x.claim(0);
            x.claim(2);
            due("word(0)", x.word(0), OUTSIDE);
            due("word(5)", x.word(5), OUTSIDE);
            due("word(4)", x.word(4), STATE);
            due("a hidden one frees none", x.word(2), 0);
            due("one that is not last", x.word(1), 1);
            due("the other one stays", x.count(6), 4);
            due("word(4) again", x.word(4), 0);
        });
    }

    private static void row() {
        test("ACTS (these seven) are a row (16 at most; of more the first one is forgotten)", () -> {
            LastOfKind x = forged(4, 1111);
            due("forge", x.count(9), 1);
            x.hide(0);
            due("hide", x.count(9), 2);
            x.hide(0);
            due("hide again", x.count(9), 3);
            x.guard(0);
            due("guard", x.count(9), 4);
            x.guard(0);
            x.claim(0);
            due("claim", x.count(9), 6);
            x.word(1);
            due("word", x.count(9), 7);
            x.year();
            due("year", x.count(9), 8);
            x.forge(2222, 0);
            x.broken(1);
            due("break", x.count(9), 10);
            x.sight(0, 1, true);
            x.seed(5);
            x.years(1, 1);
            x.keep(0);
            x.judge(1, 30);
            due("no other call is an act", x.count(9), 10);
            for (int i = 11; i <= 16; i++) {
                x.year();
                due("acts", x.count(9), i);
            }
            x.year();
            due("of 17 the first is forgotten", x.count(9), 16);
            for (int left = 15; left >= 0; left--) {
                due("undo", x.undo(), left);
            }
            due("no more", x.undo(), STATE);
            due("the first one, a forging, stays", x.count(1), 1);
            due("and nothing else", x.count(4) * 10 + x.count(3), 10);
        });
        test("the last one can be undone.", () -> {
            LastOfKind x = houseOf("K4X11110110X22220110X33330111");
            x.claim(0);
            x.hide(1);
            x.guard(2);
            x.broken(2);
            x.word(3);
            x.year();
            x.forge(1111, 0);
            due("the forging", x.undo(), 6);
            due("things and claimed ones", x.count(1) * 10 + x.count(6), 31);
            due("the year", x.undo(), 5);
            due("the year", x.count(3), 0);
            due("the word", x.undo(), 4);
            due("the word", x.count(2), 4);
            due("the breaking", x.undo(), 3);
            due("broken", x.count(8), 0);
            due("the guard", x.undo(), 2);
            due("the guard", x.thing(2, 7), 1);
            due("the hiding", x.undo(), 1);
            due("hidden", x.count(7), 0);
            due("the claim", x.undo(), 0);
            due("claimed", x.count(6), 0);
        });
    }

    private static void prices() {
        test("12 times its WORTH by how many are SHOWN that are ALIKE, itself too (cut)", () -> {
            LastOfKind x = houseOf("K4X11110910X11110710X11110510X11110110X11110310X11110210");
            x.forge(1111, 0);
            x.forge(1111, 1);
            due("108 by eight", x.price(0), 13);
            due("84 by eight", x.price(1), 10);
            due("60 by eight", x.price(2), 7);
            due("12 by eight", x.price(3), 1);
            x.hide(7);
            due("108 by seven", x.price(0), 15);
            x.broken(6);
            due("108 by six", x.price(0), 18);
            due("84 by six", x.price(1), 14);
            x.broken(5);
            due("84 by five", x.price(1), 16);
            due("alone", houseOf("K4X11110910").price(0), 108);
        });
        test("; else 0.", () -> {
            LastOfKind x = forged(4, 1111, 2222);
            x.hide(0);
            x.broken(1);
            due("a hidden one", x.price(0), 0);
            due("a broken one", x.price(1), 0);
        });
    }

    // ---- plans

    private static void campaigns() {
        test("CAMPAIGN for a THING that is SHOWN: the least it costs that it is LAST", () -> {
            // 1 shares three marks with 0, 2 two, 3 all: by 2 they cost 2, 4 and 6, by 3 less 4 and one step more.
            LastOfKind x = houseOf("K2X12340110X12391120X12881940X12342160");
            due("12 by 2, 3 + 8 by 3, 6 + 6 by 4", x.campaign(0), 11);
            x.broken(3);
            due("6 by 2, 3 + 2 by 3, 6 by 4", x.campaign(0), 5);
            due("alone by 4", forged(4, 1234, 1235).campaign(0), 0);
        });
        test("each other one SHOWN that is ALIKE then must be broken (its COST, 5 more, if it has a GUARD;", () -> {
            LastOfKind x = houseOf("K4X11110191X11111190X11111110X22220110");
            due("the guarded one is asked", x.campaign(0), 10);
            due("another one is asked", x.campaign(1), 15);
            x.guard(0);
            due("its guard is gone", x.campaign(1), 10);
            x.hide(2);
            due("a hidden one needs not be broken", x.campaign(1), 9);
            x.broken(0);
            due("nor a broken one", x.campaign(1), 0);
        });
        test("it can not be, if it is CLAIMED now, whatever THE WORD then)", () -> {
            // By 4 nothing is alike; by 3 the claimed one would be, and would be freed, but bars that word.
            LastOfKind x = forged(4, 1111, 1112);
            x.claim(1);
            due("it stays last by 4", x.campaign(0), 0);
            due("the word", x.campaignBy(0, 0), 4);
            due("nothing broken", x.campaignBy(0, 1), 0);
        });
        test("(3 for each step it moves by): NONE: it can not be.", () -> {
            // All costs here are 14, so steps are cheaper: one, two, three.
            due("one step", houseOf("K3X12340110X12390191").campaign(0), 3);
            due("two steps", houseOf("K2X12340110X12390191").campaign(0), 6);
            due("three steps", houseOf("K1X12340110X12390191").campaign(0), 9);
            due("no step helps", houseOf("K1X12340110X12340191").campaign(0), 14);
            // What is CLAIMED is LAST, so by THE WORD of now no claimed one is alike: it always can be.
            LastOfKind x = houseOf("K1X12340991X12340991X12340991X12340991X12340991X12340991");
            due("five of 14", x.campaign(0), 70);
            x.forge(1234, 0);
            x.forge(1234, 0);
            due("the dearest", x.campaign(5), 72);
        });
        test("OF CAMPAIGNS: of the cheapest the one whose WORD is least; the set of THINGS that are broken by it.", () -> {
            LastOfKind x = houseOf("K3X12340110X12990190X12390130");
            due("3 by 3, and 3 by 4", x.campaign(0), 3);
            due("the word", x.campaignBy(0, 0), 3);
            due("the set", x.campaignBy(0, 1), 4);
            LastOfKind six = houseOf("K2X12340110X12990160");
            due("6 by 2, 3 by 3", six.campaignBy(0, 0), 3);
            due("none is broken", six.campaignBy(0, 1), 0);
            LastOfKind three = houseOf("K1X12340110X19990130X12390130X12340120");
            due("8 by 1, 3 + 5 by 2, 6 + 5 by 3, 9 + 2 by 4", three.campaign(0), 8);
            due("the least word", three.campaignBy(0, 0), 1);
            due("its set", three.campaignBy(0, 1), 14);
        });
    }

    private static void copies() {
        test("COPY of a CLAIMED THING: of sets of its MARKS (bits 0 to 3) those that as MARKS of a new THING (all others of"
            + " that being unlike all there are) make it ALIKE to that one, and to no other one that is SHOWN", () -> {
            LastOfKind x = forged(3, 1234, 1255, 9934, 1834);
            x.hide(3);
            x.claim(0);
            due("a hidden one bars none", x.copy(0), 7);
            LastOfKind all = forged(4, 9999, 9990, 8999);
            all.claim(0);
            due("all four", all.copy(0), 15);
        });
        test("the set of fewest MARKS, of like ones the least; NONE: there is none.", () -> {
            // What is CLAIMED is LAST, so no other one shares as many marks as THE WORD: the least of them are enough.
            for (int word = 1; word <= 4; word++) {
                LastOfKind x = forged(word, 1111, 2222);
                x.claim(0);
                due("by " + word, x.copy(0), (1 << word) - 1);
            }
        });
    }

    private static void words() {
        test("THE BEST WORD: by which most THINGS are LAST", () -> {
            LastOfKind x = forged(1, 1111, 1112, 1122, 1222);
            due("all are last by 4 alone", x.bestWord(0), 4);
            due("four", x.bestWord(1), 4);
            x.broken(1);
            x.broken(2);
            due("two are left, which share one mark", x.bestWord(0), 2);
            due("two", x.bestWord(1), 2);
            due("one more by 4", forged(3, 1111, 1111, 1112).bestWord(0), 4);
            LastOfKind hidden = forged(2, 1111, 1111);
            due("none by any", hidden.bestWord(1), 0);
            hidden.hide(0);
            due("beside a hidden one", hidden.bestWord(1), 1);
            due("by the word as it is", hidden.bestWord(0), 2);
        });
        test("of like ones the nearest to THE WORD, of these the least.", () -> {
            LastOfKind x = forged(4, 1234, 5678);
            for (int word : new int[] {3, 2, 1, 4}) {
                x.word(word);
                due("all words are like", x.bestWord(0), word);
            }
            due("3 is nearer to 1 than 4", forged(1, 1111, 1122).bestWord(0), 3);
            due("2 is nearer to 1 than 3 and 4", forged(1, 1111, 1222).bestWord(0), 2);
            due("none is last by any", forged(2, 1111, 1111).bestWord(0), 2);
        });
    }

    private static void restsOf(LastOfKind x, int many, int first, int second, int third) {
        due("how many", x.rests(0), many);
        due("owner 0", x.rests(1), first);
        due("owner 1", x.rests(2), second);
        due("owner 2", x.rests(3), third);
        due("whether there is one", x.rests(4), many > 0 ? 1 : 0);
    }

    private static void rests() {
        test("RESTS of OWNERS: each of the three chooses one THING that is SHOWN, not CLAIMED, without a GUARD, of another"
            + " OWNER, to break it, or none", () -> {
            // Owner 0 has 54, and 108 less 4 if it breaks 1; owner 1 has 6, and 12 less 9 if it breaks 0.
            LastOfKind x = houseOf("K4X11110990X11111140");
            restsOf(x, 1, 1, NONE, NONE);
            x.guard(1);
            restsOf(x, 1, NONE, NONE, NONE);
            x.guard(1);
            x.hide(1);
            restsOf(x, 1, NONE, NONE, NONE);
            restsOf(houseOf("K4X11110990X11110110"), 1, NONE, NONE, NONE);
            restsOf(houseOf("K4X11112990X11112110X11112110"), 1, NONE, NONE, NONE);
        });
        test("all that are chosen are broken; an OWNER has then PRICES of its THINGS that are SHOWN, less COST of what it"
            + " chose.", () -> {
            // Owner 0 has 12 by none, 18 less the cost of 1 or 2 by one of them.
            restsOf(houseOf("K4X11110311X11111151X11111150"), 1, 2, NONE, NONE);
            restsOf(houseOf("K4X11110311X11111160X11111160"), 3, NONE, NONE, NONE);
            // Two things of owner 0: 8 by none, 12 less the cost of 2.
            restsOf(houseOf("K4X11110111X11110111X11111140"), 2, NONE, NONE, NONE);
            restsOf(houseOf("K4X11110111X11110111X11111130"), 1, 2, NONE, NONE);
            // Two break at once, each another one.
            restsOf(houseOf("K4X11110911X22221911X11112110X22222110"), 1, 2, 3, NONE);
            restsOf(houseOf("K4X11110911X22221911X33332911X11111110X22222110X33330110"), 1, 3, 4, 5);
            // Owners 0 and 2 have 36 by none, 54 less 1 by breaking 1, and 54 if the other one does.
            restsOf(houseOf("K4X11110991X11111110X11112991"), 2, NONE, NONE, 1);
        });
        test("A choice of all three RESTS, if none of them had more by choosing otherwise alone", () -> {
            // What brings as much as it costs rests as well as none does.
            restsOf(houseOf("K4X11110190X11111160"), 2, NONE, NONE, NONE);
            restsOf(houseOf("K4X11110190X11111150"), 1, 1, NONE, NONE);
            restsOf(houseOf("K4X11110190X11111170"), 1, NONE, NONE, NONE);
        });
        test("how many do, the first one by OWNERS (none ahead of all THINGS, THINGS by number); NONE.", () -> {
            // Who is broken has nothing and breaks nothing, so one of the two breaks: first the one where 0 does not.
            restsOf(houseOf("K4X11110910X11111910"), 2, NONE, 0, NONE);
            restsOf(houseOf("K4X11111910X11112910"), 2, NONE, NONE, 0);
            // Owner 0 breaks one of two that are of one owner.
            restsOf(houseOf("K4X11110911X11111110X11111110"), 2, 1, NONE, NONE);
            // Of three with the like worth each pays by breaking, as long as it is not broken: none rests.
            restsOf(houseOf("K4X11110910X11111910X11112910"), 0, NONE, NONE, NONE);
            restsOf(new LastOfKind(), 1, NONE, NONE, NONE);
        });
    }

    // ---- sightings

    private static void sightings() {
        test("(it included, SHOWN ones always there, BROKEN ones never) at least k are there, or less than k", () -> {
            LastOfKind x = forged(4, 1111, 1111, 1111, 1111, 2222);
            x.hide(0);
            x.hide(1);
            x.broken(2);
            // Of 0 to 3 the shown one, 3, is there, 2 is not, 0 and 1 may be.
            int[] atLeast = {4, 4, 3, 1, 0, 0, 0, 0, 0};
            for (int k = 0; k <= 8; k++) {
                x.sight(0, k, true);
                due("at least " + k, x.worlds(0), atLeast[k]);
                x.unsight();
                x.sight(3, k, false);
                due("less than " + k, x.worlds(0), 4 - atLeast[k]);
                x.unsight();
            }
            x.sight(2, 3, true);
            due("of the broken one", x.worlds(1), 3);
            x.unsight();
            x.hide(4);
            x.sight(4, 1, true);
            due("of a hidden one, itself", x.worlds(1), 16);
            LastOfKind near = forged(2, 1111, 1122, 2222);
            near.hide(1);
            near.sight(0, 2, true);
            near.sight(2, 2, true);
            due("alike by two to both", near.worlds(1), 2);
            near.word(3);
            due("alike by three to none", near.worlds(0), 0);
        });
        test("6 such at most, none at first", () -> {
            LastOfKind x = forged(4, 1111);
            due("at first", x.count(10), 0);
            for (int i = 1; i <= 6; i++) {
                due("sighted", x.sight(0, 0, true), i);
            }
            due("a seventh", x.sight(0, 0, true), FULL);
            x.unsight();
            due("one again", x.sight(0, 0, true), 1);
        });
        test("(of THINGS that there are not any more nothing is looked at)", () -> {
            LastOfKind x = forged(4, 1111, 1111);
            x.hide(0);
            x.sight(1, 1, false);
            due("the shown one is there", x.worlds(0), 0);
            x.undo();
            x.undo();
            x.hide(0);
            due("it is not any more", x.worlds(0), 2);
            due("it stays told", x.count(10), 1);
            x.forge(2222, 0);
            due("another one of its number", x.worlds(0), 0);
            x.unsight();
            x.sight(1, 1, true);
            due("it is there", x.worlds(0), 2);
            x.undo();
            due("nothing is looked at, so it can be", x.worlds(0), 2);
            due("fewer things", x.house(), 0);
            due("of no things", x.worlds(0), 1);
        });
        test("WORLDS: sets of HIDDEN ones that are there (of those that are HIDDEN and THERE) by which all that is SIGHTED"
            + " is so: how many, who is in all, in none (bits).", () -> {
            LastOfKind x = forged(4, 1111, 2222, 3333, 4444);
            for (int thing = 0; thing < 4; thing++) {
                x.hide(thing);
            }
            x.broken(3);
            due("all sets", x.worlds(0), 8);
            x.sight(0, 1, true);
            x.sight(1, 1, false);
            due("how many", x.worlds(0), 2);
            due("in all", x.worlds(1), 1);
            due("in none", x.worlds(2), 2);
        });
        test("TO SEEK: the HIDDEN one for which of WORLDS with it and without it the fewer are most; of like ones the least;"
            + " NONE: there is no WORLD, or none is HIDDEN.", () -> {
            LastOfKind x = forged(4, 1111, 2222, 2222, 3333);
            due("none hidden", x.toSeek(), NONE);
            x.hide(2);
            x.hide(1);
            due("of like ones the least", x.toSeek(), 1);
            x.hide(0);
            x.sight(0, 1, true);
            due("0 is sure", x.toSeek(), 1);
            x.hide(1);
            due("1 is shown", x.toSeek(), 2);
            x.sight(2, 2, true);
            due("all are sure, the least", x.toSeek(), 0);
            x.sight(2, 2, false);
            due("no world", x.toSeek(), NONE);
            x.unsight();
            x.broken(0);
            due("a broken one is not sought", x.toSeek(), 2);
            x.sight(2, 2, true);
            due("nor if all are sure", x.toSeek(), 2);
        });
    }

    // ---- museums, chances, years

    private static void turnsOf(LastOfKind x, int turns, int ahead, int first) {
        due("ahead by " + turns, x.byTurns(turns, 0), 1000 + ahead);
        due("first by " + turns, x.byTurns(turns, 1), first);
    }

    private static void museums() {
        test("n turns (0 to 4) in all: who is at turn claims a THING that is LAST and not CLAIMED (has its WORTH)", () -> {
            LastOfKind x = houseOf("K4X11110310X22220910X33330410X44440210X55550810X55550810");
            due("below", x.byTurns(-1, 0), OUTSIDE);
            due("above", x.byTurns(5, 0), OUTSIDE);
            // 9, 4, 3 and 2 are there to claim, the two of worth 8 are alike.
            turnsOf(x, 0, 0, 0);
            turnsOf(x, 1, 9, 2);
            turnsOf(x, 2, 5, 2);
            turnsOf(x, 3, 8, 2);
            turnsOf(x, 4, 6, 2);
            x.claim(1);
            turnsOf(x, 1, 4, 3);
            turnsOf(x, 2, 1, 3);
            x.hide(2);
            turnsOf(x, 1, 3, 1);
        });
        test("or breaks one that is THERE, not CLAIMED, without a GUARD (that costs it its COST), or does nothing", () -> {
            // To break one of the two opens the other one to who is next, so nothing is better.
            LastOfKind x = houseOf("K4X11110910X11110910");
            for (int turns = 0; turns <= 4; turns++) {
                turnsOf(x, turns, 0, 0);
            }
        });
        test("each does what leaves it most ahead of the other one in the end: by how much the first one is ahead of the"
            + " other one then, and 1000", () -> {
            // Claimed at once: who waits loses it.
            LastOfKind one = houseOf("K4X11110710");
            for (int turns = 1; turns <= 4; turns++) {
                turnsOf(one, turns, 7, 1);
            }
            due("nothing to gain", new LastOfKind().byTurns(4, 0), 1000);
        });
        test("what it does first: 0 nothing, 1 and the THING (claims), 11 and the THING (breaks), of like ones the"
            + " least.", () -> {
            LastOfKind x = houseOf("K4X11110510X22220510");
            turnsOf(x, 1, 5, 1);
            turnsOf(x, 2, 0, 1);
            // By three and four turns it is 0 by nothing as well: the other one would claim, and then the first one.
            turnsOf(x, 3, 0, 0);
            turnsOf(x, 4, 0, 0);
            LastOfKind last = houseOf("K4X11110510X11110510X22220110X22220110X33330110X33330110");
            last.forge(3333, 0);
            last.forge(4444, 0);
            turnsOf(last, 1, 1, 8);
        });
    }

    private static void chances() {
        test("CHANCE: each THING that is SHOWN, not CLAIMED, without a GUARD is broken by x tenths (0 to 10), by itself", () -> {
            LastOfKind x = forged(4, 1111, 1111, 1111, 2222);
            fraction(x, "x is 0", 0, 0, 0, 1);
            fraction(x, "x is 10", 0, 10, 0, 1);
            fraction(x, "x is 1", 0, 1, 9, 1000);
            fraction(x, "x is 9", 0, 9, 81, 1000);
            due("x is -1", x.chance(0, -1, true), OUTSIDE);
            due("x is 11", x.chance(0, 11, true), OUTSIDE);
            x.hide(2);
            fraction(x, "one other is hidden", 0, 5, 1, 4);
            x.guard(0);
            fraction(x, "it is guarded", 0, 5, 1, 2);
            fraction(x, "the guarded one stays", 1, 5, 0, 1);
            fraction(x, "x is 10, it is guarded", 0, 10, 1, 1);
            x.claim(3);
            fraction(x, "a claimed one", 3, 10, 1, 1);
        });
        test("the chance that a THING is LAST then.", () -> {
            LastOfKind x = forged(1, 1, 2, 3, 4, 5, 6, 7, 8);
            fraction(x, "of eight, by nine tenths", 0, 9, 4782969, 100000000);
            fraction(x, "of eight, by a tenth", 0, 1, 9, 100000000);
            fraction(x, "of eight, by a half", 7, 5, 1, 256);
            x.hide(0);
            fraction(x, "a hidden one", 0, 5, 0, 1);
            x.broken(1);
            fraction(x, "a broken one", 1, 5, 0, 1);
        });
    }

    /** The upper 31 of 64 bits, by ten, with exact numbers; the seeds follow each other. */
    private static final class Draws {
        private static final BigInteger WHOLE = BigInteger.ONE.shiftLeft(64);
        private BigInteger x;

        Draws(long seed) {
            x = BigInteger.valueOf(seed).mod(WHOLE);
        }

        int next() {
            x = x.multiply(new BigInteger("6364136223846793005")).add(new BigInteger("1442695040888963407")).mod(WHOLE);
            return x.divide(BigInteger.ONE.shiftLeft(33)).mod(BigInteger.TEN).intValue();
        }
    }

    private static void years() {
        test("YEARS by THE SEED: m times (1 to 30) for each THING, by number, that can be broken so (SHOWN, not CLAIMED,"
            + " without a GUARD, not broken by then)", () -> {
            LastOfKind x = forged(4, 1111, 2222, 3333, 4444, 5555, 6666);
            due("m is 0", x.years(0, 0), OUTSIDE);
            due("m is 31", x.years(31, 0), OUTSIDE);
            due("m is 30", x.years(30, 0), 63);
            due("180 draws", x.seed(0), seedAfter(180));
            due("m is 1", x.years(1, 0), 63);
            due("6 draws", x.seed(0), seedAfter(6));
            x.hide(0);
            x.claim(1);
            x.guard(2);
            x.broken(3);
            due("two can be broken", x.years(1, 10), 6);
            due("2 draws", x.seed(0), seedAfter(2));
            due("who is broken is drawn for no more", x.years(30, 10), 6);
            due("2 draws again", x.seed(0), seedAfter(2));
            // From 0 the draws are 7, 4, 7, 6: by 5 the second one, 5, goes, and 4 is drawn for by 7.
            due("by number", x.years(1, 5), 22);
            // From 0 the draws are 7, 4, 7, and then 6, 5 for the two that are left: by 6 the second and the third go.
            due("once for each, then once more", forged(4, 1111, 2222, 3333).years(2, 6), 1);
        });
        test("x (THE SEED, a long; 0 at first) becomes x times 6364136223846793005 and 1442695040888963407 (64 bits,"
            + " wrapping)", () -> {
            LastOfKind x = forged(4, 1111);
            due("at first", x.years(1, 0), 1);
            due("then", x.seed(-1), 1442695040888963407L);
            x.years(1, 0);
            due("from -1", x.seed(Long.MAX_VALUE), 1442695040888963407L - 6364136223846793005L);
            x.years(1, 0);
            due("from the most", x.seed(Long.MIN_VALUE), Long.MAX_VALUE * 6364136223846793005L + 1442695040888963407L);
            x.years(1, 0);
            due("from the least", x.seed(0), Long.MIN_VALUE + 1442695040888963407L);
        });
        test("it is broken, if of its upper 31 bits what is left by 10 is less than t (0 to 10)", () -> {
            LastOfKind x = forged(4, 1111);
            due("t is -1", x.years(1, -1), OUTSIDE);
            due("t is 11", x.years(1, 11), OUTSIDE);
            int belowZero = 0;
            for (long seed = -40; seed <= 40; seed++) {
                int left = new Draws(seed * 1234567891234567L).next();
                for (int t : new int[] {left, left + 1}) {
                    x.seed(seed * 1234567891234567L);
                    due("of " + left + " by " + t, x.years(1, t), left < t ? 0 : 1);
                }
                belowZero += x.seed(0) < 0 ? 1 : 0;
            }
            due("seeds below 0 were among them", belowZero > 20 ? 1 : 0, 1);
            due("t is 0", x.years(30, 0), 1);
            due("t is 10", x.years(1, 10), 0);
        });
        test("which are LAST then, as bits. (Nothing changes but THE SEED.)", () -> {
            LastOfKind x = forged(4, 1111, 1111, 2222);
            // From 0 the draws are 7, 4, 7: by 5 the second one goes.
            due("the first one is last then", x.years(1, 5), 5);
            due("none is broken", x.count(8), 0);
            due("which are last", x.count(5), 4);
            due("acts", x.count(9), 3);
        });
    }

    private static long seedAfter(int draws) {
        Draws from = new Draws(0);
        for (int i = 0; i < draws; i++) {
            from.next();
        }
        return from.x.longValue();
    }

    private static void slots() {
        test("SLOTS 0 to 1 keep THINGS, THE WORD, THE YEAR (THE ROW of ACTS is empty when one goes on).", () -> {
            LastOfKind x = houseOf(SIX);
            x.broken(1);
            x.hide(3);
            x.claim(2);
            x.guard(4);
            x.word(3);
            x.year();
            due("kept in 0", x.keep(0), 6);
            x.forge(4321, 1);
            x.word(1);
            x.year();
            x.guard(2);
            due("kept in 1", x.keep(1), 7);
            due("no slot 2", x.keep(2), UNKNOWN);
            due("no slot -1", x.again(-1), UNKNOWN);
            due("acts", x.count(9), 10);
            due("0 goes on", x.again(0), 6);
            due("no acts", x.count(9), 0);
            due("nothing to undo", x.undo(), STATE);
            due("broken", x.count(8), 2);
            due("hidden", x.count(7), 8);
            due("claimed", x.count(6), 4);
            due("the guard of 4", x.thing(4, 7), 1);
            due("the guard of 2", x.thing(2, 7), 1);
            due("the word", x.count(2), 3);
            due("the year", x.count(3), 1);
            due("1 goes on", x.again(1), 7);
            due("the forged one", Sentences.marksOf(x, 6), 4321);
            due("letters", x.count(0), 56);
            due("the word", x.count(2), 1);
            due("the year", x.count(3), 2);
            due("the guard of 2", x.thing(2, 7), 0);
        });
    }
}
