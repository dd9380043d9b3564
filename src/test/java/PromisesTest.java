/** Each promise of the document by itself: ordinary calls, the edges that it names, and wrong calls. */
public final class PromisesTest {
    private static final int UNKNOWN = -1, OUTSIDE = -2, STATE = -3, FULL = -4, NONE = -9;
    private static final int[] NO_THINGS = {-1, 8, 32, 64, Integer.MIN_VALUE, Integer.MAX_VALUE};

    private static int wrong = 0;

    public static void main(String[] args) {
        newObject();
        write();
        wipe();
        fault();
        house();
        thing();
        alike();
        price();
        broken();
        forge();
        hide();
        claim();
        guard();
        word();
        year();
        undo();
        judge();
        campaign();
        campaignBy();
        copy();
        bestWord();
        rests();
        sight();
        unsight();
        worlds();
        toSeek();
        byTurns();
        chance();
        seed();
        years();
        keep();
        again();
        count();
        System.out.println(wrong == 0 ? "promises: all answers are as due" : "promises: " + wrong + " answers are not as due");
        if (wrong != 0) {
            System.exit(1);
        }
    }

    private static void due(String what, long got, long want) {
        if (got != want) {
            wrong++;
            System.out.println(what + " answered " + got + ", due is " + want);
        }
    }

    private static LastOfKind told(String text) {
        LastOfKind x = new LastOfKind();
        tell(x, text);
        return x;
    }

    private static void tell(LastOfKind x, String text) {
        x.wipe();
        for (int i = 0; i < text.length(); i++) {
            x.write(text.charAt(i));
        }
    }

    private static LastOfKind houseOf(String text) {
        LastOfKind x = told(text);
        due("house of " + text, x.house(), (text.length() - 2) / 9);
        return x;
    }

    private static LastOfKind forged(int word, int... marks) {
        LastOfKind x = houseOf("K" + word);
        for (int each : marks) {
            x.forge(each, 0);
        }
        return x;
    }

    // ---- the house

    private static void newObject() {
        LastOfKind x = new LastOfKind();
        int[] counts = {0, 0, 4, 0, 0, 0, 0, 0, 0, 0, 0};
        for (int what = 0; what < counts.length; what++) {
            due("1: count " + what, x.count(what), counts[what]);
        }
        due("1: no thing 0", x.thing(0, 0), UNKNOWN);
        due("1: nothing kept in 0", x.again(0), STATE);
        due("1: nothing kept in 1", x.again(1), STATE);
        due("1: the seed", x.seed(0), 0);
        LastOfKind other = new LastOfKind();
        x.forge(1, 1);
        due("1: two objects are two", other.count(1), 0);
    }

    private static void write() {
        LastOfKind x = new LastOfKind();
        due("2: write(-1)", x.write(-1), OUTSIDE);
        due("2: write(256)", x.write(256), OUTSIDE);
        due("2: refused ones are not written", x.count(0), 0);
        due("2: write(0)", x.write(0), 1);
        due("2: write(255)", x.write(255), 2);
        for (int i = 3; i <= 56; i++) {
            due("2: write is letter " + i, x.write('K'), i);
        }
        due("2: the 57th", x.write('K'), FULL);
        due("2: outside ahead of full", x.write(256), OUTSIDE);
        due("2: still 56", x.count(0), 56);
    }

    private static void wipe() {
        LastOfKind x = told("K2X");
        due("3: wipe", x.wipe(), 3);
        due("3: wipe of nothing", x.wipe(), 0);
        due("3: the text is empty", x.count(0), 0);
        due("3: written anew", x.write('K'), 1);
        LastOfKind house = houseOf("K2X12340991");
        due("3: wipe of a house", house.wipe(), 11);
        due("3: the house stays", house.count(1), 1);
    }

    private static void faultOf(String text, int want) {
        due("4: fault of '" + text + "'", told(text).fault(), want);
    }

    private static void fault() {
        faultOf("", 0);
        faultOf("K", 1);
        faultOf("k", 0);
        faultOf("X", 0);
        faultOf("K0", 1);
        faultOf("K5", 1);
        faultOf("K1", NONE);
        faultOf("K4", NONE);
        faultOf("K4K", 2);
        faultOf("K4 ", 2);
        String thing = "X09092991";
        for (int length = 1; length < thing.length(); length++) {
            faultOf("K3" + thing.substring(0, length), 2 + length);
        }
        faultOf("K3" + thing, NONE);
        faultOf("K3X00000110", NONE);
        String badSigns = "x:/:/3002";
        int[] alsoBad = {'Y', '/', ':', 'X', ' ', '/', ':', ':', '2'};
        for (int place = 0; place < 9; place++) {
            String ahead = "K3" + thing + thing.substring(0, place);
            faultOf(ahead + badSigns.charAt(place) + thing.substring(place + 1), 11 + place);
            faultOf(ahead + (char) alsoBad[place], 11 + place);
        }
        faultOf("Z3" + thing + "Z", 0);
        StringBuilder six = new StringBuilder("K1");
        for (int i = 0; i < 6; i++) {
            six.append(thing);
        }
        faultOf(six.toString(), NONE);
        faultOf(six.substring(0, 55), 55);
        faultOf(six.substring(0, 55) + "2", 55);
        LastOfKind wrapped = new LastOfKind();
        wrapped.write(255);
        due("4: letter 255", wrapped.fault(), 0);
    }

    private static void house() {
        LastOfKind x = told("K");
        due("5: a fault", x.house(), STATE);
        tell(x, "K2X12340271X56781101");
        due("5: a cost of 0", x.house(), STATE);
        tell(x, "K2X12340271X5678111");
        due("5: not at its end", x.house(), STATE);
        due("5: refused changes nothing", x.count(2), 4);
        due("5: refused makes no things", x.count(1), 0);
        due("5: refused leaves the text", x.count(0), 19);
        tell(x, "K2X12340271X56781110X");
        due("5: one letter too many", x.house(), STATE);
        tell(x, "K2X12340271X56781911");
        due("5: a house", x.house(), 2);
        due("5: the first guard", x.thing(0, 7), 1);
        due("5: the word", x.count(2), 2);
        due("5: the text stays", x.count(0), 20);
        x.broken(0);
        x.forge(5678, 0);
        x.hide(2);
        x.claim(1);
        x.guard(1);
        x.year();
        x.keep(0);
        x.sight(1, 2, true);
        x.seed(77);
        due("5: anew", x.house(), 2);
        due("5: nothing broken", x.count(8), 0);
        due("5: nothing hidden", x.thing(1, 9), 0);
        due("5: nothing claimed", x.count(6), 0);
        due("5: guards as told", x.thing(0, 7) * 10 + x.thing(1, 7), 11);
        due("5: the year", x.count(3), 0);
        due("5: the row is empty", x.count(9), 0);
        due("5: what was kept is gone", x.again(0), STATE);
        due("5: what is sighted stays", x.count(10), 1);
        due("5: the seed stays", x.seed(0), 77);
        tell(x, "K3");
        due("5: no things", x.house(), 0);
        due("5: no things are there", x.count(4), 0);
        due("5: nothing to undo", x.undo(), STATE);
    }

    private static void thing() {
        LastOfKind x = houseOf("K3X12342561X12301990X99990120");
        int[] want = {1, 2, 3, 4, 2, 5, 6, 1, 0, 0, 0, 0};
        for (int what = 0; what < want.length; what++) {
            due("6: thing(0, " + what + ")", x.thing(0, what), want[what]);
        }
        due("6: owner", x.thing(1, 4), 1);
        due("6: worth", x.thing(1, 5), 9);
        due("6: cost", x.thing(1, 6), 9);
        due("6: no guard", x.thing(1, 7), 0);
        due("6: last", x.thing(2, 11), 1);
        x.claim(2);
        due("6: claimed", x.thing(2, 10), 1);
        x.hide(1);
        due("6: hidden", x.thing(1, 9), 1);
        due("6: last now", x.thing(0, 11), 1);
        x.broken(1);
        due("6: broken", x.thing(1, 8), 1);
        due("6: broken and still hidden", x.thing(1, 9), 1);
        due("6: broken is not last", x.thing(1, 11), 0);
        due("6: marks of a broken one", x.thing(1, 3), 0);
        due("6: outside below", x.thing(0, -1), OUTSIDE);
        due("6: outside above", x.thing(0, 12), OUTSIDE);
        due("6: unknown", x.thing(3, 0), UNKNOWN);
        due("6: unknown ahead of outside", x.thing(3, 12), UNKNOWN);
        for (int no : NO_THINGS) {
            due("6: thing " + no, x.thing(no, 0), UNKNOWN);
        }
    }

    private static void alike() {
        // By their marks 0 and 1 share three, 0 and 2 share two, 0 and 3 share none at the same place.
        LastOfKind x = forged(3, 1234, 1235, 1255, 4321);
        due("7: by three", x.alike(0), 2);
        due("7: of the middle one", x.alike(1), 5);
        due("7: place by place", x.alike(3), 0);
        x.word(2);
        due("7: by two", x.alike(0), 6);
        x.word(4);
        due("7: by four", x.alike(0), 0);
        x.word(1);
        due("7: by one", x.alike(2), 3);
        x.hide(1);
        due("7: only shown ones", x.alike(2), 1);
        due("7: to a hidden one", x.alike(1), 5);
        x.broken(2);
        due("7: to a broken one", x.alike(2), 1);
        due("7: not a broken one", x.alike(0), 0);
        due("7: unknown", x.alike(4), UNKNOWN);
        for (int no : NO_THINGS) {
            due("7: alike " + no, x.alike(no), UNKNOWN);
        }
    }

    private static void price() {
        LastOfKind x = houseOf("K4X11110710X11111510X11112210X11110110X11110110X22220990");
        due("8: twelve times 7 by 5, cut", x.price(0), 16);
        due("8: twelve times 5 by 5", x.price(1), 12);
        due("8: twelve by 5, cut", x.price(3), 2);
        due("8: the only one", x.price(5), 108);
        x.hide(4);
        due("8: four are left", x.price(0), 21);
        due("8: a hidden one", x.price(4), 0);
        x.broken(3);
        due("8: three are left", x.price(0), 28);
        due("8: a broken one", x.price(3), 0);
        due("8: unknown", x.price(6), UNKNOWN);
        for (int no : NO_THINGS) {
            due("8: price " + no, x.price(no), UNKNOWN);
        }
    }

    // ---- acts

    private static void broken() {
        LastOfKind x = houseOf("K4X11110110X11111110X22222110X33330111");
        due("9: which are last then", x.broken(0), 14);
        due("9: broken before", x.broken(0), STATE);
        due("9: guarded", x.broken(3), STATE);
        x.claim(1);
        due("9: claimed", x.broken(1), STATE);
        x.hide(2);
        due("9: a hidden one can be", x.broken(2), 10);
        due("9: broken ones", x.count(8), 5);
        due("9: acts of it", x.count(9), 4);
        due("9: unknown", x.broken(4), UNKNOWN);
        for (int no : NO_THINGS) {
            due("9: broken " + no, x.broken(no), UNKNOWN);
        }
        due("9: refused are no acts", x.count(9), 4);
    }

    private static void forge() {
        LastOfKind x = new LastOfKind();
        due("10: the first", x.forge(1230, 2), 0);
        int[] want = {1, 2, 3, 0, 2, 1, 1, 0, 0, 0, 0, 1};
        for (int what = 0; what < want.length; what++) {
            due("10: thing(0, " + what + ")", x.thing(0, what), want[what]);
        }
        due("10: four figures below", x.forge(-1, 0), OUTSIDE);
        due("10: four figures above", x.forge(10000, 0), OUTSIDE);
        due("10: owner below", x.forge(0, -1), OUTSIDE);
        due("10: owner above", x.forge(0, 3), OUTSIDE);
        due("10: least", x.forge(0, 0), 1);
        due("10: most", x.forge(9999, 1), 2);
        due("10: its marks", x.thing(2, 0) * 1000 + x.thing(2, 1) * 100 + x.thing(2, 2) * 10 + x.thing(2, 3), 9999);
        x.claim(0);
        x.claim(1);
        due("10: claimed", x.count(6), 3);
        due("10: one that is alike", x.forge(1230, 0), 3);
        due("10: frees it alone", x.count(6), 2);
        due("10: last ones", x.count(5), 6);
        for (int i = 4; i < 8; i++) {
            due("10: number " + i, x.forge(5555, 0), i);
        }
        due("10: eight", x.forge(5555, 0), FULL);
        due("10: outside ahead of full", x.forge(5555, 3), OUTSIDE);
        x.broken(7);
        due("10: a broken one counts", x.forge(5555, 0), FULL);
        due("10: acts of it", x.count(9), 11);
        LastOfKind near = forged(3, 1234, 5634);
        near.claim(0);
        near.claim(1);
        near.forge(1239, 0);
        due("10: alike by the word", near.count(6), 2);
        due("10: behind those of a house", houseOf("K1X11110110").forge(1, 1), 1);
    }

    private static void hide() {
        LastOfKind x = forged(4, 1111, 1111, 2222, 3333);
        due("11: hidden", x.hide(0), 1);
        due("11: last ones", x.count(5), 14);
        x.claim(1);
        x.claim(2);
        due("11: claimed", x.hide(1), STATE);
        due("11: hidden no more", x.hide(0), 0);
        due("11: the one alike is freed", x.count(6), 4);
        due("11: hidden again", x.hide(0), 1);
        x.broken(0);
        due("11: broken and hidden", x.hide(0), STATE);
        x.broken(3);
        due("11: broken", x.hide(3), STATE);
        x.claim(1);
        x.undo();
        x.undo();
        x.undo();
        due("11: to hide frees nothing", x.hide(3), 1);
        due("11: claimed stay", x.count(6), 4);
        due("11: a guarded one", x.guard(0), 1);
        due("11: guarded is hidden no more", x.hide(0), 0);
        due("11: unknown", x.hide(4), UNKNOWN);
        for (int no : NO_THINGS) {
            due("11: hide " + no, x.hide(no), UNKNOWN);
        }
    }

    private static void claim() {
        LastOfKind x = forged(4, 1111, 1111, 2222, 3333);
        due("12: not last", x.claim(0), STATE);
        due("12: one", x.claim(2), 1);
        due("12: claimed", x.claim(2), STATE);
        due("12: two", x.claim(3), 2);
        x.hide(0);
        due("12: a hidden one", x.claim(0), STATE);
        due("12: last by hiding", x.claim(1), 3);
        due("12: which", x.count(6), 14);
        due("12: unknown", x.claim(4), UNKNOWN);
        for (int no : NO_THINGS) {
            due("12: claim " + no, x.claim(no), UNKNOWN);
        }
        LastOfKind broken = forged(4, 1111);
        broken.broken(0);
        due("12: a broken one", broken.claim(0), STATE);
        LastOfKind guarded = houseOf("K4X11110111");
        due("12: a guarded one", guarded.claim(0), 1);
    }

    private static void guard() {
        LastOfKind x = houseOf("K4X11110111X22220110");
        due("13: none then", x.guard(0), 0);
        due("13: one then", x.guard(1), 1);
        due("13: told so", x.thing(1, 7), 1);
        due("13: again", x.guard(0), 1);
        x.claim(0);
        due("13: a claimed one", x.guard(0), 0);
        x.hide(1);
        due("13: a hidden one", x.guard(1), 0);
        x.broken(1);
        due("13: a broken one", x.guard(1), STATE);
        due("13: acts", x.count(9), 8);
        due("13: unknown", x.guard(2), UNKNOWN);
        for (int no : NO_THINGS) {
            due("13: guard " + no, x.guard(no), UNKNOWN);
        }
    }

    private static void word() {
        LastOfKind x = forged(4, 1234, 1299, 5678, 1234);
        due("14: as it is", x.word(4), STATE);
        due("14: below", x.word(0), OUTSIDE);
        due("14: above", x.word(5), OUTSIDE);
        x.claim(1);
        x.claim(2);
        due("14: alike by less frees none yet", x.word(3), 0);
        due("14: the word", x.count(2), 3);
        due("14: the one that is not last is freed", x.word(2), 2);
        due("14: the other stays", x.count(6), 4);
        due("14: a step back frees none", x.word(4), 0);
        due("14: and claims none", x.count(6), 4);
        due("14: acts", x.count(9), 9);
        LastOfKind hidden = forged(4, 1111, 1112);
        hidden.claim(0);
        hidden.hide(1);
        due("14: a hidden one frees none", hidden.word(1), 0);
        due("14: still claimed", hidden.count(6), 1);
        LastOfKind both = forged(4, 1111, 1112);
        both.claim(0);
        both.claim(1);
        due("14: both are freed", both.word(3), 3);
    }

    private static void year() {
        LastOfKind x = new LastOfKind();
        due("15: one", x.year(), 1);
        due("15: two", x.year(), 2);
        due("15: the year", x.count(3), 2);
        due("15: acts", x.count(9), 2);
        x.forge(1, 1);
        due("15: three", x.year(), 3);
        for (int i = 4; i <= 30; i++) {
            due("15: the year goes on", x.year(), i);
        }
    }

    private static void undo() {
        LastOfKind x = houseOf("K4X11110110X22220110");
        due("16: none", x.undo(), STATE);
        x.claim(0);
        x.forge(1111, 0);
        due("16: freed", x.count(6), 0);
        due("16: the forged one goes", x.undo(), 1);
        due("16: what it freed is claimed", x.count(6), 1);
        due("16: things", x.count(1), 2);
        due("16: the claim", x.undo(), 0);
        due("16: not claimed", x.count(6), 0);
        x.broken(0);
        x.guard(1);
        x.hide(1);
        x.word(1);
        x.year();
        due("16: the year", x.undo(), 4);
        due("16: the year is 0", x.count(3), 0);
        due("16: the word", x.undo(), 3);
        due("16: the word is 4", x.count(2), 4);
        due("16: the hiding", x.undo(), 2);
        due("16: nothing hidden", x.count(7), 0);
        due("16: the guard", x.undo(), 1);
        due("16: no guard", x.thing(1, 7), 0);
        due("16: the breaking", x.undo(), 0);
        due("16: nothing broken", x.count(8), 0);
        due("16: none is left", x.undo(), STATE);
        for (int i = 1; i <= 20; i++) {
            x.year();
            due("16: at most sixteen", x.count(9), Math.min(i, 16));
        }
        for (int left = 15; left >= 0; left--) {
            due("16: of the last sixteen", x.undo(), left);
        }
        due("16: the first are forgotten", x.undo(), STATE);
        due("16: and stay done", x.count(3), 4);
        x.sight(0, 1, true);
        x.seed(5);
        x.year();
        x.undo();
        due("16: sightings are no acts", x.count(10), 1);
        due("16: the seed is none", x.seed(0), 5);
        x.forge(3333, 1);
        x.undo();
        x.forge(4444, 2);
        due("16: marks of another one", x.thing(2, 0), 4);
    }

    private static void judge() {
        LastOfKind x = houseOf("K4X11110110X11110110X22220111X33330110");
        due("17: break 0, claim 1", x.judge(2, 11), NONE);
        due("17: claim 1 comes too early", x.judge(2, 1100), 0);
        due("17: hide 0, claim 1, hide 0, break 1", x.judge(4, 20112001), NONE);
        due("17: a claimed one can not be broken", x.judge(3, 1101), 2);
        due("17: hide frees, so it can be", x.judge(4, 20112001), NONE);
        due("17: guarded", x.judge(1, 2), 0);
        due("17: the guard goes first", x.judge(2, 3202), NONE);
        due("17: the guard comes", x.judge(2, 3303), 1);
        due("17: broken twice", x.judge(2, 303), 1);
        due("17: guard of a broken one", x.judge(2, 333), 1);
        due("17: hide of a broken one", x.judge(2, 323), 1);
        due("17: hide of a claimed one", x.judge(2, 1323), 1);
        due("17: claim twice", x.judge(4, 131213), 3);
        due("17: break a hidden one", x.judge(2, 2303), NONE);
        due("17: no such figure", x.judge(1, 40), 0);
        due("17: no such figure later", x.judge(2, 1390), 1);
        due("17: no such thing", x.judge(1, 4), 0);
        due("17: no such thing by 9", x.judge(3, 133139), 2);
        due("17: nothing is changed", x.count(6) + x.count(7) + x.count(8) + x.count(9), 0);
        due("17: figures ahead are 0", x.judge(4, 0), 1);
        due("17: n below", x.judge(0, 0), OUTSIDE);
        due("17: n above", x.judge(5, 0), OUTSIDE);
        due("17: row below", x.judge(1, -1), OUTSIDE);
        due("17: two figures", x.judge(1, 99), 0);
        due("17: three figures", x.judge(1, 100), OUTSIDE);
        due("17: five figures", x.judge(2, 10000), OUTSIDE);
        due("17: six figures", x.judge(3, 999999), 0);
        due("17: seven figures", x.judge(3, 1000000), OUTSIDE);
        due("17: eight figures", x.judge(4, 99999999), 0);
        due("17: nine figures", x.judge(4, 100000000), OUTSIDE);
        due("17: far out", x.judge(Integer.MIN_VALUE, Integer.MAX_VALUE), OUTSIDE);
        due("17: no things", new LastOfKind().judge(1, 0), 0);
    }

    // ---- plans

    private static void campaign() {
        // 1 is like 0 in three marks, 2 in two; 3 is the same and has a guard.
        LastOfKind x = houseOf("K2X12340110X12391120X12881940X12342131");
        due("18: three to break is 14, two a step away 13, one two steps away 14", x.campaign(0), 13);
        x.broken(1);
        due("18: two to break", x.campaign(0), 11);
        due("18: its own guard costs nothing", x.campaign(3), 4);
        x.hide(3);
        due("18: the hidden one is not asked", x.campaign(0), 3);
        due("18: a hidden one", x.campaign(3), STATE);
        due("18: a broken one", x.campaign(1), STATE);
        due("18: unknown", x.campaign(4), UNKNOWN);
        for (int no : NO_THINGS) {
            due("18: campaign " + no, x.campaign(no), UNKNOWN);
        }
        due("18: one alone", forged(1, 1234).campaign(0), 0);
        LastOfKind claimed = forged(4, 1234, 1235);
        claimed.claim(0);
        due("18: last by the word of now", claimed.campaign(1), 0);
        claimed.hide(1);
        claimed.word(3);
        due("18: a claimed one that is last", claimed.campaign(0), 0);
        LastOfKind by = forged(4, 1234, 1235, 1234);
        by.claim(1);
        due("18: one step to no claimed one is none", by.campaign(0), 1);
        // A claimed thing that would be alike by a less word can not be broken, though it would be freed.
        due("18: no less word", by.campaignBy(0, 0), 4);
    }

    private static void campaignBy() {
        LastOfKind x = houseOf("K2X12340110X12391120X12881940X12342131");
        due("19: the word", x.campaignBy(0, 0), 3);
        due("19: the set", x.campaignBy(0, 1), 10);
        due("19: below", x.campaignBy(0, -1), OUTSIDE);
        due("19: above", x.campaignBy(0, 2), OUTSIDE);
        due("19: unknown ahead of outside", x.campaignBy(4, 2), UNKNOWN);
        x.hide(1);
        due("19: hidden", x.campaignBy(1, 0), STATE);
        due("19: outside ahead of state", x.campaignBy(1, 2), OUTSIDE);
        for (int no : NO_THINGS) {
            due("19: campaignBy " + no, x.campaignBy(no, 0), UNKNOWN);
        }
        // By 3 nothing must be broken for one step; the same cost by 2 with the one of cost 3.
        LastOfKind like = houseOf("K2X12340110X12990130");
        due("19: of like ones the least word", like.campaignBy(0, 0), 2);
        due("19: of like ones its set", like.campaignBy(0, 1), 2);
        due("19: of like ones the cost", like.campaign(0), 3);
        LastOfKind dear = houseOf("K2X12340110X12990140");
        due("19: a step is cheaper", dear.campaignBy(0, 0), 3);
        due("19: nothing is broken", dear.campaignBy(0, 1), 0);
        LastOfKind less = houseOf("K3X12340110X55550110X12390150");
        due("19: three a step", less.campaign(0), 3);
        due("19: up", less.campaignBy(0, 0), 4);
    }

    private static void copy() {
        LastOfKind x = forged(4, 1234, 1256, 9934);
        due("20: not claimed", x.copy(0), STATE);
        x.claim(0);
        due("20: by four", x.copy(0), 15);
        x.word(3);
        due("20: by three", x.copy(0), 7);
        x.word(2);
        due("20: freed by two", x.copy(0), STATE);
        x.hide(1);
        x.hide(2);
        x.claim(0);
        due("20: hidden ones are not asked", x.copy(0), 3);
        x.word(1);
        due("20: by one", x.copy(0), 1);
        due("20: unknown", x.copy(3), UNKNOWN);
        for (int no : NO_THINGS) {
            due("20: copy " + no, x.copy(no), UNKNOWN);
        }
        LastOfKind shared = forged(2, 1234, 1999, 9299);
        shared.claim(0);
        due("20: one mark shared with each", shared.copy(0), 3);
    }

    private static void bestWord() {
        LastOfKind x = forged(1, 1111, 1112, 1122, 2222);
        due("21: the word", x.bestWord(0), 4);
        due("21: how many", x.bestWord(1), 4);
        LastOfKind far = forged(1, 1234, 5678);
        due("21: the nearest", far.bestWord(0), 1);
        far.word(3);
        due("21: the nearest is this", far.bestWord(0), 3);
        LastOfKind mid = forged(1, 1111, 1122);
        due("21: the nearest of 3 and 4", mid.bestWord(0), 3);
        LastOfKind same = forged(2, 1111, 1111);
        due("21: none is last by any", same.bestWord(0), 2);
        due("21: how many then", same.bestWord(1), 0);
        same.hide(0);
        due("21: hidden ones are not asked", same.bestWord(1), 1);
        due("21: below", same.bestWord(-1), OUTSIDE);
        due("21: above", same.bestWord(2), OUTSIDE);
        due("21: no things", new LastOfKind().bestWord(0), 4);
        due("21: nothing is changed", mid.count(2), 1);
    }

    private static void rests() {
        LastOfKind none = new LastOfKind();
        due("22: nobody has a thing", none.rests(0), 1);
        due("22: owner 0 none", none.rests(1), NONE);
        due("22: there is one", none.rests(4), 1);
        due("22: below", none.rests(-1), OUTSIDE);
        due("22: above", none.rests(5), OUTSIDE);
        // Owner 0 has worth 9, alike to one of owner 1 with worth 1 and cost 4: 54 alone with it, 108 without.
        LastOfKind pair = houseOf("K4X11110990X11111140");
        // Owner 1 gains 12 - 6 = 6 by breaking 0, less 9: it does not. But if its own is broken, it does nothing either.
        due("22: one rest", pair.rests(0), 1);
        due("22: owner 0 breaks 1", pair.rests(1), 1);
        due("22: owner 1 none", pair.rests(2), NONE);
        due("22: owner 2 none", pair.rests(3), NONE);
        due("22: there is one", pair.rests(4), 1);
        pair.guard(1);
        due("22: a guard", pair.rests(1), NONE);
        pair.guard(1);
        pair.hide(1);
        due("22: a hidden one", pair.rests(1), NONE);
        LastOfKind claimed = houseOf("K4X11110990X11121110X11122110");
        claimed.hide(2);
        claimed.claim(1);
        due("22: the claimed one is not alike", claimed.rests(0), 1);
        LastOfKind bystander = houseOf("K4X11110190X22221990X22222110");
        bystander.claim(0);
        due("22: owner 1 breaks 2", bystander.rests(2), 2);
        due("22: owner 2 none", bystander.rests(3), NONE);
        // Two owners with the same worth, both dear to break: all like it as it is.
        LastOfKind dear = houseOf("K4X11110190X11111190");
        due("22: nobody breaks", dear.rests(0), 1);
        due("22: none by 0", dear.rests(1), NONE);
        // A break of cost 6 that brings 6: with and without rest both.
        LastOfKind even = houseOf("K4X11110190X11111160");
        due("22: two rest", even.rests(0), 2);
        due("22: none ahead of all things", even.rests(1), NONE);
        // Owner 2 has the worth; either of the two alike must go and 1 or 2 cost the same.
        LastOfKind own = houseOf("K4X11110990X11110110");
        due("22: nobody breaks its own", own.rests(0), 1);
        due("22: own none", own.rests(1), NONE);
        // Owners 0 and 2 both gain by breaking 1, from 36 to 53; if the one does, the other one has 54 by none.
        LastOfKind shared = houseOf("K4X11110991X11111110X11112991");
        due("22: two rest, one by each", shared.rests(0), 2);
        due("22: the first is by owner 2", shared.rests(1), NONE);
        due("22: owner 2 breaks it", shared.rests(3), 1);
        due("22: owner 1", shared.rests(2), NONE);
        // Who is broken has nothing, and would only pay by breaking too: two rest, one by each.
        LastOfKind chase = houseOf("K4X11110910X11111910");
        due("22: one or the other", chase.rests(0), 2);
        due("22: owner 0 none", chase.rests(1), NONE);
        due("22: owner 1 breaks 0", chase.rests(2), 0);
    }

    // ---- sightings

    private static void sight() {
        LastOfKind x = forged(4, 1111, 2222);
        due("23: one", x.sight(0, 1, true), 1);
        due("23: two", x.sight(1, 0, false), 2);
        due("23: k below", x.sight(0, -1, true), OUTSIDE);
        due("23: k above", x.sight(0, 9, true), OUTSIDE);
        due("23: unknown", x.sight(2, 1, true), UNKNOWN);
        due("23: unknown ahead of outside", x.sight(2, 9, true), UNKNOWN);
        for (int no : NO_THINGS) {
            due("23: sight " + no, x.sight(no, 0, true), UNKNOWN);
        }
        due("23: still two", x.count(10), 2);
        for (int i = 3; i <= 6; i++) {
            due("23: number " + i, x.sight(0, 8, false), i);
        }
        due("23: six", x.sight(0, 0, true), FULL);
        due("23: outside ahead of full", x.sight(0, 9, true), OUTSIDE);
        due("23: no act", x.count(9), 2);
        x.broken(0);
        LastOfKind broken = forged(4, 1111);
        broken.broken(0);
        due("23: a broken one", broken.sight(0, 1, true), 1);
    }

    private static void unsight() {
        LastOfKind x = forged(4, 1111);
        due("24: none", x.unsight(), 0);
        x.sight(0, 0, false);
        x.sight(0, 1, true);
        due("24: no world", x.worlds(0), 0);
        due("24: two", x.unsight(), 2);
        due("24: none now", x.count(10), 0);
        due("24: a world again", x.worlds(0), 1);
    }

    private static void worlds() {
        LastOfKind x = forged(4, 1111, 1111, 1111, 2222, 1112);
        due("25: nothing hidden", x.worlds(0), 1);
        due("25: none in all", x.worlds(1), 0);
        due("25: none in none", x.worlds(2), 0);
        x.hide(0);
        x.hide(1);
        x.hide(3);
        due("25: all sets", x.worlds(0), 8);
        x.sight(0, 2, true);
        due("25: the shown one and one more at least", x.worlds(0), 6);
        x.sight(3, 1, false);
        due("25: and not the other", x.worlds(0), 3);
        due("25: in none", x.worlds(2), 8);
        due("25: in all none yet", x.worlds(1), 0);
        x.sight(2, 3, false);
        due("25: less than three", x.worlds(0), 2);
        x.hide(2);
        due("25: the shown one is hidden, two of three", x.worlds(0), 3);
        x.broken(2);
        due("25: the broken one is there never", x.worlds(0), 1);
        due("25: both in all", x.worlds(1), 3);
        due("25: broken ones are not told", x.worlds(2), 8);
        x.word(3);
        due("25: by another word one more is alike", x.worlds(0), 2);
        x.sight(0, 8, true);
        due("25: none", x.worlds(0), 0);
        due("25: none of all", x.worlds(1), NONE);
        due("25: none of none", x.worlds(2), NONE);
        due("25: below", x.worlds(-1), OUTSIDE);
        due("25: above", x.worlds(3), OUTSIDE);
        LastOfKind gone = forged(4, 1111, 2222);
        gone.hide(0);
        gone.forge(3333, 0);
        gone.sight(2, 1, false);
        due("25: a shown one is there", gone.worlds(0), 0);
        gone.undo();
        due("25: things that are not there any more", gone.worlds(0), 2);
        LastOfKind bare = forged(4, 1111, 1111);
        bare.broken(0);
        bare.sight(0, 1, true);
        due("25: alike to a broken one", bare.worlds(0), 1);
        bare.sight(0, 2, true);
        due("25: the broken one itself is not there", bare.worlds(0), 0);
    }

    private static void toSeek() {
        LastOfKind x = forged(4, 1111, 2222, 2222);
        due("26: none hidden", x.toSeek(), NONE);
        x.hide(0);
        x.hide(1);
        x.hide(2);
        due("26: all alike, the least", x.toSeek(), 0);
        x.sight(0, 1, true);
        due("26: 0 is sure, so 1", x.toSeek(), 1);
        x.sight(1, 1, true);
        due("26: of three worlds 1 of two kinds", x.toSeek(), 1);
        x.sight(1, 2, true);
        due("26: all sure, the least", x.toSeek(), 0);
        x.sight(1, 2, false);
        due("26: no world", x.toSeek(), NONE);
        LastOfKind broken = forged(4, 1111, 2222);
        broken.hide(0);
        broken.broken(0);
        due("26: a broken one is not sought", broken.toSeek(), NONE);
        broken.hide(1);
        broken.sight(1, 1, true);
        due("26: a sure one is", broken.toSeek(), 1);
        // Of 0 (2222) and 1, 2, 3 (1111) at least three: 0 is in half of the worlds, the others in most.
        LastOfKind half = forged(4, 1111, 1111, 1111, 2222);
        for (int thing = 0; thing < 4; thing++) {
            half.hide(thing);
        }
        half.sight(0, 2, true);
        due("26: the fewer are most of the last", half.toSeek(), 3);
    }

    // ---- museums, chances

    private static void byTurns() {
        LastOfKind x = houseOf("K4X11110310X22220510X33330410");
        due("27: no turns", x.byTurns(0, 0), 1000);
        due("27: no turns, nothing first", x.byTurns(0, 1), 0);
        due("27: one turn", x.byTurns(1, 0), 1005);
        due("27: it claims 1", x.byTurns(1, 1), 2);
        due("27: two turns", x.byTurns(2, 0), 1001);
        due("27: three turns", x.byTurns(3, 0), 1004);
        due("27: nothing changes", x.count(6) + x.count(8) + x.count(9), 0);
        due("27: n below", x.byTurns(-1, 0), OUTSIDE);
        due("27: n above", x.byTurns(5, 0), OUTSIDE);
        due("27: what below", x.byTurns(1, -1), OUTSIDE);
        due("27: what above", x.byTurns(1, 2), OUTSIDE);
        due("27: no things", new LastOfKind().byTurns(4, 1), 0);
        // Two of worth 9 alike and one of worth 1: who breaks gives the other one the prize.
        LastOfKind trap = houseOf("K4X11110910X11111910");
        due("27: two turns, nobody begins", trap.byTurns(2, 0), 1000);
        due("27: nothing", trap.byTurns(2, 1), 0);
        due("27: three turns, it waits", trap.byTurns(3, 1), 0);
        due("27: three turns, the other one does not break", trap.byTurns(3, 0), 1000);
        // A single one of worth 2 and cost 1: with two turns it is claimed at once; a guard only bars the breaking.
        LastOfKind one = houseOf("K4X11110211");
        due("27: claimed at once", one.byTurns(4, 1), 1);
        due("27: two ahead", one.byTurns(4, 0), 1002);
        one.claim(0);
        due("27: claimed already", one.byTurns(4, 0), 1000);
        // A guarded 9 that is not last because of 1, hidden ones that can be broken, a last one to fight for.
        LastOfKind hidden = houseOf("K4X11110910X11110910X22220810");
        hidden.hide(0);
        due("27: the shown one of two", hidden.byTurns(1, 1), 2);
        due("27: the two prizes", hidden.byTurns(2, 0), 1001);
        // Three of one kind, cost 1 and worth 9: to break two and claim needs an odd end.
        LastOfKind odd = houseOf("K4X11110910X11110910X11110910");
        due("27: one breaks, none goes on", odd.byTurns(4, 0), 1000);
        // By breaking 2 the claim of 9 is denied only if the cost is less than what it saves.
        LastOfKind deny = houseOf("K4X11110910X22220810X33330110");
        due("27: claims beat denials", deny.byTurns(2, 1), 1);
        due("27: denied", deny.byTurns(2, 0), 1001);
        LastOfKind dear = houseOf("K4X11110910X22220990");
        due("27: first the one of like worth with the least number", dear.byTurns(2, 1), 1);
        due("27: break is dear", dear.byTurns(2, 0), 1000);
        // Two alike of worth 9 and one to lose: with one guarded, who breaks the other gives it away.
        LastOfKind guarded = houseOf("K4X11110911X11111910X22220110");
        due("27: two turns of it", guarded.byTurns(2, 0), 1001);
        due("27: it claims the small one", guarded.byTurns(2, 1), 3);
        // The only hindrance is 0; breaking is best when the other one can not use what it frees.
        LastOfKind hinder = houseOf("K4X11110110X11110120");
        hinder.forge(1111, 0);
        due("27: a break can come first only if it pays", hinder.byTurns(4, 1), 0);
    }

    private static void chanceOf(LastOfKind x, String what, int thing, int tenths, int upper, int lower) {
        due("28: " + what + ", upper", x.chance(thing, tenths, true), upper);
        due("28: " + what + ", lower", x.chance(thing, tenths, false), lower);
    }

    private static void chance() {
        LastOfKind x = forged(4, 1111, 1111, 2222, 1111);
        chanceOf(x, "two others must go", 0, 5, 1, 8);
        chanceOf(x, "by three tenths", 0, 3, 63, 1000);
        chanceOf(x, "alone", 2, 4, 3, 5);
        chanceOf(x, "alone for sure", 2, 0, 1, 1);
        chanceOf(x, "gone for sure", 2, 10, 0, 1);
        chanceOf(x, "never alone", 0, 0, 0, 1);
        x.guard(0);
        chanceOf(x, "a guarded one stays itself", 0, 5, 1, 4);
        chanceOf(x, "surely alone", 0, 10, 1, 1);
        chanceOf(x, "the guarded one is in the way", 1, 5, 0, 1);
        x.claim(2);
        chanceOf(x, "a claimed one", 2, 7, 1, 1);
        x.hide(1);
        chanceOf(x, "the hidden one does not count", 0, 5, 1, 2);
        chanceOf(x, "a hidden one is not last", 1, 5, 0, 1);
        x.broken(3);
        chanceOf(x, "a broken one", 3, 5, 0, 1);
        chanceOf(x, "alone and guarded", 0, 9, 1, 1);
        due("28: x below", x.chance(0, -1, true), OUTSIDE);
        due("28: x above", x.chance(0, 11, false), OUTSIDE);
        due("28: unknown", x.chance(4, 5, true), UNKNOWN);
        due("28: unknown ahead of outside", x.chance(4, 11, false), UNKNOWN);
        for (int no : NO_THINGS) {
            due("28: chance " + no, x.chance(no, 0, true), UNKNOWN);
        }
        LastOfKind eight = forged(1, 1, 1, 1, 1, 1, 1, 1, 1);
        chanceOf(eight, "seven others by three tenths", 0, 3, 15309, 100000000);
        chanceOf(eight, "seven others by nine tenths", 7, 9, 4782969, 100000000);
        chanceOf(eight, "seven others by a half", 3, 5, 1, 256);
        LastOfKind barred = forged(4, 1111, 1112);
        barred.claim(1);
        barred.word(2);
        chanceOf(barred, "freed it can be broken", 0, 5, 1, 4);
    }

    private static void seed() {
        LastOfKind x = new LastOfKind();
        due("29: at first", x.seed(5), 0);
        due("29: what it was", x.seed(Long.MIN_VALUE), 5);
        due("29: least", x.seed(Long.MAX_VALUE), Long.MIN_VALUE);
        due("29: most", x.seed(-1), Long.MAX_VALUE);
        due("29: below 0", x.seed(0), -1);
        x.keep(0);
        x.seed(9);
        x.again(0);
        due("29: not kept", x.seed(0), 9);
    }

    private static void years() {
        LastOfKind x = forged(4, 1111, 1111, 2222);
        due("30: none by 0", x.years(1, 0), 4);
        long third = 0;
        for (int i = 0; i < 3; i++) {
            third = third * 6364136223846793005L + 1442695040888963407L;
        }
        due("30: the seed went on by three", x.seed(0), third);
        due("30: all by 10", x.years(1, 10), 0);
        due("30: again by three", x.seed(0), third);
        due("30: broken ones draw no more", x.years(30, 10), 0);
        due("30: still three", x.seed(0), third);
        // From 0 the upper 31 bits leave, by ten, 7, 4, 7, 6, 5, 1: worked out apart from this, with exact numbers.
        due("30: by 4 none", x.years(1, 4), 4);
        x.seed(0);
        due("30: by 5 the second", x.years(1, 5), 5);
        x.seed(0);
        due("30: by 7 the second", x.years(1, 7), 5);
        x.seed(0);
        due("30: by 8 all", x.years(1, 8), 0);
        x.seed(0);
        due("30: by 6 twice, the third by the fifth number", x.years(2, 6), 1);
        due("30: five numbers drawn", x.seed(0), 7076646890315895283L);
        due("30: nothing is changed", x.count(8) + x.count(9) - 3, 0);
        due("30: which are last by the word", forged(1, 1111, 1222).years(1, 0), 0);
        x.guard(0);
        x.hide(1);
        x.claim(2);
        x.seed(4);
        due("30: guarded, hidden, claimed", x.years(30, 10), 5);
        due("30: draw nothing", x.seed(0), 4);
        due("30: m below", x.years(0, 5), OUTSIDE);
        due("30: m above", x.years(31, 5), OUTSIDE);
        due("30: t below", x.years(1, -1), OUTSIDE);
        due("30: t above", x.years(1, 11), OUTSIDE);
        due("30: refused leaves the seed", x.seed(0), 0);
    }

    // ---- slots

    private static void keep() {
        LastOfKind x = forged(4, 1111, 2222);
        due("31: two things", x.keep(0), 2);
        due("31: below", x.keep(-1), UNKNOWN);
        due("31: above", x.keep(2), UNKNOWN);
        due("31: far out", x.keep(32), UNKNOWN);
        x.forge(3333, 0);
        due("31: three in the other", x.keep(1), 3);
        due("31: the first is as it was", x.again(0), 2);
        due("31: kept over", x.keep(1), 2);
        due("31: two now", x.again(1), 2);
        due("31: none kept changes none", x.count(9), 0);
        x.year();
        x.keep(0);
        due("31: keeping is no act", x.count(9), 1);
    }

    private static void again() {
        LastOfKind x = houseOf("K4X11110111X22221220X33332330");
        due("32: none kept", x.again(0), STATE);
        due("32: below", x.again(-1), UNKNOWN);
        due("32: above", x.again(2), UNKNOWN);
        x.claim(0);
        x.broken(1);
        x.hide(2);
        x.year();
        x.word(3);
        due("32: kept", x.keep(1), 3);
        due("32: the other is not", x.again(0), STATE);
        x.undo();
        x.undo();
        x.undo();
        x.undo();
        x.guard(0);
        x.forge(1111, 1);
        x.sight(0, 1, true);
        due("32: acts ahead", x.count(9), 3);
        due("32: as kept", x.again(1), 3);
        due("32: the row is empty", x.count(9), 0);
        due("32: nothing to undo", x.undo(), STATE);
        due("32: claimed", x.count(6), 1);
        due("32: broken", x.count(8), 2);
        due("32: hidden", x.count(7), 4);
        due("32: the word", x.count(2), 3);
        due("32: the year", x.count(3), 1);
        due("32: the guard", x.thing(0, 7), 1);
        due("32: what is sighted stays", x.count(10), 1);
        due("32: the text stays", x.count(0), 29);
        x.guard(0);
        due("32: again", x.again(1), 3);
        due("32: the slot is as it was", x.thing(0, 7), 1);
    }

    private static void count() {
        LastOfKind x = houseOf("K3X11110111X11122220X33332330X44441110");
        x.hide(3);
        x.broken(2);
        x.year();
        x.year();
        x.sight(1, 1, false);
        int[] want = {38, 4, 3, 2, 3, 0, 0, 8, 4, 4, 1};
        for (int what = 0; what < want.length; what++) {
            due("33: count " + what, x.count(what), want[what]);
        }
        x.broken(1);
        x.claim(0);
        x.broken(3);
        int[] then = {38, 4, 3, 2, 1, 1, 1, 0, 14, 7, 1};
        for (int what = 0; what < then.length; what++) {
            due("33: count " + what + " then", x.count(what), then[what]);
        }
        due("33: below", x.count(-1), OUTSIDE);
        due("33: above", x.count(11), OUTSIDE);
        due("33: far below", x.count(Integer.MIN_VALUE), OUTSIDE);
        due("33: far above", x.count(Integer.MAX_VALUE), OUTSIDE);
    }
}
