import java.math.BigInteger;
import java.util.ArrayDeque;
import java.util.ArrayList;
import java.util.Deque;
import java.util.List;
import java.util.function.IntPredicate;
import java.util.regex.Matcher;
import java.util.regex.Pattern;

/**
 * The document told a second time, as plainly as it can be and without a thought for speed, so that long runs of
 * LastOfKind have something to be held against. It shares no line and no way of holding the state with the program.
 */
final class Model {
    static final int UNKNOWN = -1, OUTSIDE = -2, STATE = -3, FULL = -4, NONE = -9;
    private static final Pattern HOUSE = Pattern.compile("K[1-4](X[0-9]{4}[0-2][1-9][1-9][01])*");

    static final class Thing {
        String marks;
        int owner, worth, cost;
        boolean guard, broken, hidden, claimed;

        Thing(String marks, int owner, int worth, int cost, boolean guard) {
            this.marks = marks;
            this.owner = owner;
            this.worth = worth;
            this.cost = cost;
            this.guard = guard;
        }

        Thing twin() {
            Thing twin = new Thing(marks, owner, worth, cost, guard);
            twin.broken = broken;
            twin.hidden = hidden;
            twin.claimed = claimed;
            return twin;
        }

        boolean isThere() {
            return !broken;
        }

        boolean isShown() {
            return !broken && !hidden;
        }

        boolean inDanger() {
            return isShown() && !claimed && !guard;
        }
    }

    static final class State {
        List<Thing> things = new ArrayList<>();
        int word = 4;
        int year = 0;

        State twin() {
            State twin = new State();
            for (Thing thing : things) {
                twin.things.add(thing.twin());
            }
            twin.word = word;
            twin.year = year;
            return twin;
        }

        static boolean alike(Thing a, Thing b, int word) {
            int same = 0;
            for (int i = 0; i < 4; i++) {
                same += a.marks.charAt(i) == b.marks.charAt(i) ? 1 : 0;
            }
            return same >= word;
        }

        boolean isLast(Thing thing) {
            return isLast(thing, word);
        }

        boolean isLast(Thing thing, int byWord) {
            return thing.isShown() && things.stream().noneMatch(o -> o != thing && o.isShown() && alike(o, thing, byWord));
        }

        int price(Thing thing) {
            long alike = things.stream().filter(o -> o.isShown() && (o == thing || alike(o, thing, word))).count();
            return thing.isShown() ? (int) (12 * thing.worth / alike) : 0;
        }

        int bits(IntPredicate in) {
            int bits = 0;
            for (int i = 0; i < things.size(); i++) {
                bits += in.test(i) ? 1 << i : 0;
            }
            return bits;
        }

        int lastBits() {
            return bits(i -> isLast(things.get(i)));
        }
    }

    private static final class Sighting {
        int thing, k;
        boolean atLeast;
    }

    private String text = "";
    private State now = new State();
    private final Deque<State> acts = new ArrayDeque<>();
    private final State[] slots = new State[2];
    private final List<Sighting> sighted = new ArrayList<>();
    private long seed = 0;

    private boolean unknown(int thing) {
        return thing < 0 || thing >= now.things.size();
    }

    private Thing get(int thing) {
        return now.things.get(thing);
    }

    private void remember() {
        acts.addLast(now.twin());
        if (acts.size() > 16) {
            acts.removeFirst();
        }
    }

    int write(int letter) {
        if (letter < 0 || letter > 255) return OUTSIDE;
        if (text.length() == 56) return FULL;
        text += (char) letter;
        return text.length();
    }

    int wipe() {
        int was = text.length();
        text = "";
        return was;
    }

    int fault() {
        for (int i = 1; i <= text.length(); i++) {
            Matcher matcher = HOUSE.matcher(text.substring(0, i));
            if (!matcher.matches() && !matcher.hitEnd()) return i - 1;
        }
        return HOUSE.matcher(text).matches() ? NONE : text.length();
    }

    int house() {
        if (fault() != NONE) return STATE;
        now = new State();
        now.word = text.charAt(1) - '0';
        for (String told : text.substring(2).split("X")) {
            if (!told.isEmpty()) {
                now.things.add(new Thing(told.substring(0, 4), told.charAt(4) - '0', told.charAt(5) - '0',
                    told.charAt(6) - '0', told.charAt(7) == '1'));
            }
        }
        acts.clear();
        slots[0] = null;
        slots[1] = null;
        return now.things.size();
    }

    int thing(int thing, int what) {
        if (unknown(thing)) return UNKNOWN;
        if (what < 0 || what > 11) return OUTSIDE;
        Thing t = get(thing);
        int[] all = {t.marks.charAt(0) - '0', t.marks.charAt(1) - '0', t.marks.charAt(2) - '0', t.marks.charAt(3) - '0',
            t.owner, t.worth, t.cost, t.guard ? 1 : 0, t.broken ? 1 : 0, t.hidden ? 1 : 0, t.claimed ? 1 : 0,
            now.isLast(t) ? 1 : 0};
        return all[what];
    }

    private int alikeBits(int thing, int word) {
        return now.bits(i -> i != thing && get(i).isShown() && State.alike(get(i), get(thing), word));
    }

    int alike(int thing) {
        return unknown(thing) ? UNKNOWN : alikeBits(thing, now.word);
    }

    int price(int thing) {
        return unknown(thing) ? UNKNOWN : now.price(get(thing));
    }

    private static boolean canBreak(Thing t) {
        return t.isThere() && !t.claimed && !t.guard;
    }

    int broken(int thing) {
        if (unknown(thing)) return UNKNOWN;
        if (!canBreak(get(thing))) return STATE;
        remember();
        get(thing).broken = true;
        return now.lastBits();
    }

    private static void freeAlike(State state, Thing to) {
        for (Thing other : state.things) {
            if (other != to && State.alike(other, to, state.word)) other.claimed = false;
        }
    }

    int forge(int marks, int owner) {
        if (marks < 0 || marks > 9999 || owner < 0 || owner > 2) return OUTSIDE;
        if (now.things.size() == 8) return FULL;
        remember();
        Thing forged = new Thing(String.format("%04d", marks), owner, 1, 1, false);
        now.things.add(forged);
        freeAlike(now, forged);
        return now.things.size() - 1;
    }

    private static void turnHidden(State state, Thing thing) {
        thing.hidden = !thing.hidden;
        if (!thing.hidden) freeAlike(state, thing);
    }

    int hide(int thing) {
        if (unknown(thing)) return UNKNOWN;
        if (get(thing).broken || get(thing).claimed) return STATE;
        remember();
        turnHidden(now, get(thing));
        return get(thing).hidden ? 1 : 0;
    }

    int claim(int thing) {
        if (unknown(thing)) return UNKNOWN;
        if (get(thing).claimed || !now.isLast(get(thing))) return STATE;
        remember();
        get(thing).claimed = true;
        return (int) now.things.stream().filter(t -> t.claimed).count();
    }

    int guard(int thing) {
        if (unknown(thing)) return UNKNOWN;
        if (get(thing).broken) return STATE;
        remember();
        get(thing).guard = !get(thing).guard;
        return get(thing).guard ? 1 : 0;
    }

    int word(int word) {
        if (word < 1 || word > 4) return OUTSIDE;
        if (word == now.word) return STATE;
        remember();
        now.word = word;
        int freed = now.bits(i -> get(i).claimed && !now.isLast(get(i)));
        for (int i = 0; i < now.things.size(); i++) {
            if ((freed & 1 << i) != 0) get(i).claimed = false;
        }
        return freed;
    }

    int year() {
        remember();
        return ++now.year;
    }

    int undo() {
        if (acts.isEmpty()) return STATE;
        now = acts.removeLast();
        return acts.size();
    }

    int judge(int n, int row) {
        if (n < 1 || n > 4 || row < 0 || Integer.toString(row).length() > 2 * n) return OUTSIDE;
        String told = String.format("%0" + 2 * n + "d", row);
        State then = now.twin();
        for (int place = 0; place < n; place++) {
            int act = told.charAt(2 * place) - '0';
            int thing = told.charAt(2 * place + 1) - '0';
            if (thing >= then.things.size()) return place;
            Thing t = then.things.get(thing);
            if (act == 0 && canBreak(t)) {
                t.broken = true;
            } else if (act == 1 && then.isLast(t) && !t.claimed) {
                t.claimed = true;
            } else if (act == 2 && !t.broken && !t.claimed) {
                turnHidden(then, t);
            } else if (act == 3 && !t.broken) {
                t.guard = !t.guard;
            } else {
                return place;
            }
        }
        return NONE;
    }

    /** The cost, the word and the set of the cheapest campaign, or three times NONE. */
    private int[] cheapest(int thing) {
        int[] best = {NONE, NONE, NONE};
        for (int word = 4; word >= 1; word--) {
            int cost = 3 * Math.abs(word - now.word);
            int set = alikeBits(thing, word);
            boolean can = true;
            for (int i = 0; i < now.things.size(); i++) {
                if ((set & 1 << i) != 0) {
                    cost += get(i).cost + (get(i).guard ? 5 : 0);
                    can &= !get(i).claimed;
                }
            }
            if (can && (best[0] == NONE || cost <= best[0])) best = new int[] {cost, word, set};
        }
        return best;
    }

    int campaign(int thing) {
        if (unknown(thing)) return UNKNOWN;
        if (!get(thing).isShown()) return STATE;
        return cheapest(thing)[0];
    }

    int campaignBy(int thing, int what) {
        if (unknown(thing)) return UNKNOWN;
        if (what != 0 && what != 1) return OUTSIDE;
        if (!get(thing).isShown()) return STATE;
        return cheapest(thing)[what + 1];
    }

    int copy(int thing) {
        if (unknown(thing)) return UNKNOWN;
        if (!get(thing).claimed) return STATE;
        for (int many = 0; many <= 4; many++) {
            for (int set = 0; set < 16; set++) {
                if (Integer.bitCount(set) != many) continue;
                StringBuilder marks = new StringBuilder();
                for (int i = 0; i < 4; i++) {
                    // A sign that no mark has is unlike all there are.
                    marks.append((set & 1 << i) != 0 ? get(thing).marks.charAt(i) : '?');
                }
                Thing made = new Thing(marks.toString(), 0, 1, 1, false);
                boolean clean = State.alike(made, get(thing), now.word);
                for (Thing other : now.things) {
                    clean &= other == get(thing) || !other.isShown() || !State.alike(made, other, now.word);
                }
                if (clean) return set;
            }
        }
        return NONE;
    }

    int bestWord(int what) {
        if (what != 0 && what != 1) return OUTSIDE;
        int best = 0;
        int most = -1;
        for (int away = 0; away <= 3; away++) {
            for (int sign = -1; sign <= 1; sign += 2) {
                int word = now.word + sign * away;
                if (word < 1 || word > 4) continue;
                int last = Integer.bitCount(now.bits(i -> now.isLast(get(i), word)));
                if (last > most) {
                    most = last;
                    best = word;
                }
            }
        }
        return what == 0 ? best : most;
    }

    private boolean mayChoose(int owner, int choice) {
        return choice < 0 || choice < now.things.size() && get(choice).inDanger() && get(choice).owner != owner;
    }

    private int has(int owner, int[] chosen) {
        State then = now.twin();
        for (int choice : chosen) {
            if (choice >= 0) then.things.get(choice).broken = true;
        }
        int sum = chosen[owner] >= 0 ? -get(chosen[owner]).cost : 0;
        for (Thing t : then.things) {
            sum += t.owner == owner ? then.price(t) : 0;
        }
        return sum;
    }

    private boolean isRest(int[] chosen) {
        for (int owner = 0; owner < 3; owner++) {
            int had = has(owner, chosen);
            for (int other = -1; other < now.things.size(); other++) {
                int[] otherwise = chosen.clone();
                otherwise[owner] = other;
                if (mayChoose(owner, other) && has(owner, otherwise) > had) return false;
            }
        }
        return true;
    }

    int rests(int what) {
        if (what < 0 || what > 4) return OUTSIDE;
        int many = 0;
        int[] first = null;
        for (int a = -1; a < now.things.size(); a++) {
            for (int b = -1; b < now.things.size(); b++) {
                for (int c = -1; c < now.things.size(); c++) {
                    int[] chosen = {a, b, c};
                    if (mayChoose(0, a) && mayChoose(1, b) && mayChoose(2, c) && isRest(chosen)) {
                        many++;
                        first = first == null ? chosen : first;
                    }
                }
            }
        }
        if (what == 0) return many;
        if (what == 4) return many > 0 ? 1 : 0;
        return first == null || first[what - 1] < 0 ? NONE : first[what - 1];
    }

    int sight(int thing, int k, boolean atLeast) {
        if (unknown(thing)) return UNKNOWN;
        if (k < 0 || k > 8) return OUTSIDE;
        if (sighted.size() == 6) return FULL;
        Sighting sighting = new Sighting();
        sighting.thing = thing;
        sighting.k = k;
        sighting.atLeast = atLeast;
        sighted.add(sighting);
        return sighted.size();
    }

    int unsight() {
        int was = sighted.size();
        sighted.clear();
        return was;
    }

    private int hiddenBits() {
        return now.bits(i -> get(i).hidden && !get(i).broken);
    }

    private List<Integer> allWorlds() {
        List<Integer> worlds = new ArrayList<>();
        int hidden = hiddenBits();
        for (int world = 0; world < 256; world++) {
            if ((world | hidden) != hidden) continue;
            boolean so = true;
            for (Sighting s : sighted) {
                if (unknown(s.thing)) continue;
                int there = 0;
                for (int i = 0; i < now.things.size(); i++) {
                    boolean isAlike = i == s.thing || State.alike(get(i), get(s.thing), now.word);
                    there += isAlike && (get(i).isShown() || (world & 1 << i) != 0) ? 1 : 0;
                }
                so &= s.atLeast ? there >= s.k : there < s.k;
            }
            if (so) worlds.add(world);
        }
        return worlds;
    }

    int worlds(int what) {
        if (what < 0 || what > 2) return OUTSIDE;
        List<Integer> worlds = allWorlds();
        if (what == 0) return worlds.size();
        if (worlds.isEmpty()) return NONE;
        int wanted = what == 1 ? 1 : 0;
        int hidden = hiddenBits();
        return now.bits(i -> (hidden & 1 << i) != 0 && worlds.stream().allMatch(w -> (w >> i & 1) == wanted));
    }

    int toSeek() {
        List<Integer> worlds = allWorlds();
        if (worlds.isEmpty()) return NONE;
        int best = NONE;
        long most = -1;
        for (int i = 0; i < 8; i++) {
            if ((hiddenBits() & 1 << i) == 0) continue;
            int thing = i;
            long with = worlds.stream().filter(w -> (w & 1 << thing) != 0).count();
            if (Math.min(with, worlds.size() - with) > most) {
                most = Math.min(with, worlds.size() - with);
                best = i;
            }
        }
        return best;
    }

    /** The lead of who is at turn and the move that it comes by, all moves looked at to the end. */
    private static int[] best(State state, int turns) {
        if (turns == 0) return new int[] {0, 0};
        int[] best = {-best(state, turns - 1)[0], 0};
        for (int move = 1; move <= 18; move++) {
            boolean claims = move <= 8;
            int thing = claims ? move - 1 : move - 11;
            if (thing < 0 || thing >= state.things.size()) continue;
            Thing t = state.things.get(thing);
            if (claims && (t.claimed || !state.isLast(t)) || !claims && !canBreak(t)) continue;
            int gain = claims ? t.worth : -t.cost;
            t.claimed = claims || t.claimed;
            t.broken = !claims || t.broken;
            int lead = gain - best(state, turns - 1)[0];
            if (claims) {
                t.claimed = false;
            } else {
                t.broken = false;
            }
            if (lead > best[0]) best = new int[] {lead, move};
        }
        return best;
    }

    int byTurns(int n, int what) {
        if (n < 0 || n > 4 || what != 0 && what != 1) return OUTSIDE;
        int[] best = best(now.twin(), n);
        return what == 0 ? 1000 + best[0] : best[1];
    }

    int chance(int thing, int x, boolean upper) {
        if (unknown(thing)) return UNKNOWN;
        if (x < 0 || x > 10) return OUTSIDE;
        int inDanger = now.bits(i -> get(i).inDanger());
        BigInteger favour = BigInteger.ZERO;
        BigInteger all = BigInteger.TEN.pow(Integer.bitCount(inDanger));
        for (int broken = 0; broken < 256; broken++) {
            if ((broken | inDanger) != inDanger) continue;
            State then = now.twin();
            for (int i = 0; i < then.things.size(); i++) {
                then.things.get(i).broken |= (broken & 1 << i) != 0;
            }
            if (then.isLast(then.things.get(thing))) {
                int fell = Integer.bitCount(broken);
                favour = favour.add(BigInteger.valueOf(x).pow(fell)
                    .multiply(BigInteger.valueOf(10 - x).pow(Integer.bitCount(inDanger) - fell)));
            }
        }
        BigInteger common = favour.gcd(all);
        return (upper ? favour : all).divide(common).intValueExact();
    }

    long seed(long v) {
        long was = seed;
        seed = v;
        return was;
    }

    int years(int m, int t) {
        if (m < 1 || m > 30 || t < 0 || t > 10) return OUTSIDE;
        State then = now.twin();
        BigInteger whole = BigInteger.ONE.shiftLeft(64);
        BigInteger x = BigInteger.valueOf(seed).mod(whole);
        for (int time = 0; time < m; time++) {
            for (Thing thing : then.things) {
                if (!thing.inDanger()) continue;
                x = x.multiply(new BigInteger("6364136223846793005")).add(new BigInteger("1442695040888963407")).mod(whole);
                thing.broken = x.shiftRight(33).mod(BigInteger.TEN).intValue() < t;
            }
        }
        seed = x.longValue();
        return then.lastBits();
    }

    int keep(int slot) {
        if (slot < 0 || slot > 1) return UNKNOWN;
        slots[slot] = now.twin();
        return now.things.size();
    }

    int again(int slot) {
        if (slot < 0 || slot > 1) return UNKNOWN;
        if (slots[slot] == null) return STATE;
        now = slots[slot].twin();
        acts.clear();
        return now.things.size();
    }

    int count(int what) {
        switch (what) {
            case 0: return text.length();
            case 1: return now.things.size();
            case 2: return now.word;
            case 3: return now.year;
            case 4: return now.bits(i -> get(i).isShown());
            case 5: return now.lastBits();
            case 6: return now.bits(i -> get(i).claimed);
            case 7: return hiddenBits();
            case 8: return now.bits(i -> get(i).broken);
            case 9: return acts.size();
            case 10: return sighted.size();
            default: return OUTSIDE;
        }
    }
}
