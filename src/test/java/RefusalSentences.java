import java.util.ArrayList;
import java.util.List;
import java.util.function.Supplier;
import java.util.function.ToLongFunction;

/** What a refused call and a mere question leave as it was: two objects of the same past answer alike ever after. */
final class RefusalSentences {
    private static final int UNKNOWN = -1, OUTSIDE = -2, STATE = -3, FULL = -4, NONE = -9;
    private static final int LEAST = Integer.MIN_VALUE, MOST = Integer.MAX_VALUE;
    private static final String SIX = "K2X12340561X00000110X99992991X77881450X55552120X55661361";
    private static final String OTHER = "K1X43210120X90901230X80802341X70700450X60601560X50502671";

    private RefusalSentences() {
    }

    static void run() {
        Sentences.terms();
        Sentences.test("What is refused changes nothing.", () -> {
            refusedWhenFull();
            refusedWhenEmpty();
        });
        Sentences.test("In what follows nothing is changed.", RefusalSentences::questions);
        Sentences.whatItIs();
        Sentences.test("An object is used for at most 512 calls after it has been made", RefusalSentences::longUse);
    }

    // ---- states

    /** Eight things, a full row, a full text, six sighted; 0 claimed and guarded, 2 hidden, 3 broken, 4 alike to 5. */
    private static LastOfKind full() {
        LastOfKind x = Sentences.told(SIX);
        x.house();
        x.forge(1122, 1);
        x.year();
        x.keep(0);
        x.forge(3344, 2);
        for (int i = 0; i < 14; i++) {
            x.year();
        }
        x.hide(2);
        x.broken(3);
        x.claim(0);
        x.guard(4);
        for (int i = 0; i < 6; i++) {
            x.sight(2, i % 2, i % 2 == 1);
        }
        x.unsight();
        for (int i = 0; i < 6; i++) {
            x.sight(2, 1, true);
        }
        x.seed(77);
        Sentences.tell(x, OTHER);
        return x;
    }

    /** As full, but the text has a fault. */
    private static LastOfKind faulty() {
        LastOfKind x = full();
        Sentences.tell(x, "K1X1234");
        return x;
    }

    private static LastOfKind empty() {
        return new LastOfKind();
    }

    // ---- all that can be seen of an object, by several of the same past, so that none is used too long

    private static List<Long> tale(Supplier<LastOfKind> past) {
        List<Long> tale = new ArrayList<>();
        look(past.get(), tale);
        ask(past.get(), tale);
        goBack(past.get(), tale);
        LastOfKind x = past.get();
        for (int slot = 0; slot < 2; slot++) {
            tale.add((long) x.again(slot));
            look(x, tale);
        }
        x = past.get();
        tale.add((long) x.fault());
        tale.add((long) x.house());
        look(x, tale);
        x = past.get();
        tale.add((long) x.wipe());
        tale.add(x.seed(1));
        return tale;
    }

    private static void look(LastOfKind x, List<Long> tale) {
        for (int what = 0; what <= 10; what++) {
            tale.add((long) x.count(what));
        }
        for (int thing = 0; thing < 8; thing++) {
            for (int what = 0; what <= 10; what++) {
                tale.add((long) x.thing(thing, what));
            }
        }
    }

    private static void ask(LastOfKind x, List<Long> tale) {
        for (int thing = 0; thing < 8; thing++) {
            tale.add((long) x.alike(thing));
            tale.add((long) x.price(thing));
            tale.add((long) x.campaignBy(thing, 1));
            tale.add((long) x.copy(thing));
            tale.add((long) x.chance(thing, 3, true));
        }
        for (int what = 0; what < 3; what++) {
            tale.add((long) x.worlds(what));
            tale.add((long) x.rests(what));
            tale.add((long) x.bestWord(what));
            tale.add((long) x.byTurns(3, what));
        }
        tale.add((long) x.toSeek());
        tale.add((long) x.years(2, 4));
        tale.add((long) x.unsight());
        tale.add((long) x.worlds(0));
    }

    private static void goBack(LastOfKind x, List<Long> tale) {
        for (int i = 0; i < 17; i++) {
            tale.add((long) x.undo());
            for (int what = 1; what <= 8; what++) {
                tale.add((long) x.count(what));
            }
            for (int thing = 0; thing < 8; thing++) {
                tale.add((long) x.thing(thing, 7));
            }
        }
    }

    // ---- what is refused

    private static void refused(String call, Supplier<LastOfKind> past, ToLongFunction<LastOfKind> by, int want) {
        Sentences.due(call, by.applyAsLong(past.get()), want);
        unchanged(call, past, by);
    }

    private static void unchanged(String call, Supplier<LastOfKind> past, ToLongFunction<LastOfKind> by) {
        List<Long> after = tale(() -> {
            LastOfKind x = past.get();
            by.applyAsLong(x);
            return x;
        });
        Sentences.due("what is seen after " + call, after, tale(past));
    }

    private static void refusedWhenFull() {
        Supplier<LastOfKind> past = RefusalSentences::full;
        refused("write(-1)", past, x -> x.write(-1), OUTSIDE);
        refused("write(256)", past, x -> x.write(256), OUTSIDE);
        refused("write('X')", past, x -> x.write('X'), FULL);
        refused("house() of a fault", RefusalSentences::faulty, LastOfKind::house, STATE);
        refused("write(256) when it is not full", RefusalSentences::faulty, x -> x.write(256), OUTSIDE);
        for (int no : new int[] {LEAST, -1, 8, 32, MOST}) {
            refused("thing " + no, past, x -> x.thing(no, 0), UNKNOWN);
            refused("alike " + no, past, x -> x.alike(no), UNKNOWN);
            refused("price " + no, past, x -> x.price(no), UNKNOWN);
            refused("broken " + no, past, x -> x.broken(no), UNKNOWN);
            refused("hide " + no, past, x -> x.hide(no), UNKNOWN);
            refused("claim " + no, past, x -> x.claim(no), UNKNOWN);
            refused("guard " + no, past, x -> x.guard(no), UNKNOWN);
            refused("campaign " + no, past, x -> x.campaign(no), UNKNOWN);
            refused("campaignBy " + no, past, x -> x.campaignBy(no, 0), UNKNOWN);
            refused("copy " + no, past, x -> x.copy(no), UNKNOWN);
            refused("sight " + no, past, x -> x.sight(no, 0, true), UNKNOWN);
            refused("chance " + no, past, x -> x.chance(no, 0, true), UNKNOWN);
            refused("keep " + no, past, x -> x.keep(no), UNKNOWN);
            refused("again " + no, past, x -> x.again(no), UNKNOWN);
        }
        refused("broken of a claimed one", past, x -> x.broken(0), STATE);
        refused("broken of a guarded one", past, x -> x.broken(5), STATE);
        refused("broken of a broken one", past, x -> x.broken(3), STATE);
        refused("forge(-1, 0)", past, x -> x.forge(-1, 0), OUTSIDE);
        refused("forge(0, 3)", past, x -> x.forge(0, 3), OUTSIDE);
        refused("forge(0, 0)", past, x -> x.forge(0, 0), FULL);
        refused("hide of a claimed one", past, x -> x.hide(0), STATE);
        refused("hide of a broken one", past, x -> x.hide(3), STATE);
        refused("claim of one that is alike", past, x -> x.claim(4), STATE);
        refused("claim of a claimed one", past, x -> x.claim(0), STATE);
        refused("claim of a hidden one", past, x -> x.claim(2), STATE);
        refused("claim of a broken one", past, x -> x.claim(3), STATE);
        refused("guard of a broken one", past, x -> x.guard(3), STATE);
        refused("word(0)", past, x -> x.word(0), OUTSIDE);
        refused("word(5)", past, x -> x.word(5), OUTSIDE);
        refused("word(2)", past, x -> x.word(2), STATE);
        refused("judge(5, 0)", past, x -> x.judge(5, 0), OUTSIDE);
        refused("judge(1, 100)", past, x -> x.judge(1, 100), OUTSIDE);
        refused("campaign of a hidden one", past, x -> x.campaign(2), STATE);
        refused("campaignBy of a broken one", past, x -> x.campaignBy(3, 0), STATE);
        refused("copy of one that is not claimed", past, x -> x.copy(1), STATE);
        refused("sight(0, 9, true)", past, x -> x.sight(0, 9, true), OUTSIDE);
        refused("sight(0, 0, false)", past, x -> x.sight(0, 0, false), FULL);
        refused("byTurns(5, 0)", past, x -> x.byTurns(5, 0), OUTSIDE);
        refused("chance(1, 11, true)", past, x -> x.chance(1, 11, true), OUTSIDE);
        refused("years(31, 5)", past, x -> x.years(31, 5), OUTSIDE);
        refused("years(5, 11)", past, x -> x.years(5, 11), OUTSIDE);
        refused("again(1)", past, x -> x.again(1), STATE);
    }

    private static void refusedWhenEmpty() {
        Supplier<LastOfKind> past = RefusalSentences::empty;
        refused("house()", past, LastOfKind::house, STATE);
        refused("undo()", past, LastOfKind::undo, STATE);
        refused("again(0)", past, x -> x.again(0), STATE);
        refused("broken(0)", past, x -> x.broken(0), UNKNOWN);
        refused("hide(0)", past, x -> x.hide(0), UNKNOWN);
        refused("claim(0)", past, x -> x.claim(0), UNKNOWN);
        refused("guard(0)", past, x -> x.guard(0), UNKNOWN);
        refused("sight(0, 0, true)", past, x -> x.sight(0, 0, true), UNKNOWN);
        refused("word(4)", past, x -> x.word(4), STATE);
        refused("forge(10000, 0)", past, x -> x.forge(10000, 0), OUTSIDE);
        refused("keep(2)", past, x -> x.keep(2), UNKNOWN);
        refused("years(0, 0)", past, x -> x.years(0, 0), OUTSIDE);
    }

    // ---- what only asks

    private static void questions() {
        Supplier<LastOfKind> past = RefusalSentences::full;
        for (int thing = 0; thing < 8; thing++) {
            int of = thing;
            unchanged("campaign(" + of + ")", past, x -> x.campaign(of));
            unchanged("campaignBy(" + of + ", 0)", past, x -> x.campaignBy(of, 0));
            unchanged("campaignBy(" + of + ", 1)", past, x -> x.campaignBy(of, 1));
            unchanged("copy(" + of + ")", past, x -> x.copy(of));
            unchanged("chance(" + of + ", 5, true)", past, x -> x.chance(of, 5, true));
            unchanged("judge of four acts with " + of, past, x -> x.judge(4, 1223000 + of * 101));
        }
        for (int each = 0; each <= 4; each++) {
            int what = each;
            unchanged("bestWord(" + what + ")", past, x -> x.bestWord(what));
            unchanged("rests(" + what + ")", past, x -> x.rests(what));
            unchanged("worlds(" + what + ")", past, x -> x.worlds(what));
            unchanged("byTurns(" + what + ", 0)", past, x -> x.byTurns(what, 0));
            unchanged("byTurns(" + what + ", 1)", past, x -> x.byTurns(what, 1));
        }
        unchanged("toSeek()", past, LastOfKind::toSeek);
        unchanged("fault()", past, LastOfKind::fault);
        unchanged("judge that all can", past, x -> {
            long judged = x.judge(4, 31310122);
            Sentences.due("judge", judged, NONE);
            return judged;
        });
        unchanged("years(30, 5), the seed set again", past, x -> {
            x.years(30, 5);
            return x.seed(77);
        });
    }

    private static void longUse() {
        LastOfKind x = full();
        int[] first = {x.byTurns(4, 0), x.byTurns(4, 1), x.rests(0), x.worlds(0), x.toSeek(), x.campaign(1)};
        for (int i = 0; i < 60; i++) {
            int[] now = {x.byTurns(4, 0), x.byTurns(4, 1), x.rests(0), x.worlds(0), x.toSeek(), x.campaign(1)};
            for (int call = 0; call < 6; call++) {
                Sentences.due("call " + call + " once more", now[call], first[call]);
            }
        }
        LastOfKind acts = Sentences.houseOf("K4X11110110");
        for (int i = 1; i <= 490; i++) {
            Sentences.due("hide", acts.hide(0), i % 2);
        }
        Sentences.due("acts", acts.count(9), 16);
        LastOfKind slots = Sentences.houseOf("K4X11110110");
        for (int i = 0; i < 240; i++) {
            Sentences.due("keep", slots.keep(i % 2), 1);
            Sentences.due("again", slots.again(i % 2), 1);
        }
    }
}
