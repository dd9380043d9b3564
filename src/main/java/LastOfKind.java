/**
 * A museum of things told by their marks, of which one may be claimed only while no other one is like it.
 * Sets of things are bits throughout: thing t is in a set if bit t is 1.
 */
public final class LastOfKind {
    public static final int UNKNOWN = -1, OUTSIDE = -2, STATE = -3, FULL = -4, NONE = -9;

    private static final int MOST_LETTERS = 56;
    private static final int MOST_THINGS = 8;
    private static final int MOST_WORD = 4;
    private static final int MOST_ACTS = 16;
    private static final int MOST_SIGHTED = 6;
    private static final int SLOTS = 2;
    private static final int OWNERS = 3;
    private static final int MARKS = 4;

    private static final int OWNER = 4, WORTH = 5, COST = 6, GUARDED = 7;
    private static final int FIGURES = 7, BITS = 4, ANY_FIGURE = 15;

    private static final int BREAK = 0, CLAIM = 1, HIDE = 2, GUARD = 3;

    private static final int MUCH = 1000;

    private final Text text;
    private final House now;
    private final House trial;
    private final Row row;
    private final House[] slots;
    private int filledSlots;
    private final Plans plans;
    private final Owners owners;
    private final Sightings sightings;
    private final Museums museums;
    private final Chances chances;

    public LastOfKind() {
        text = new Text();
        now = new House();
        trial = new House();
        row = new Row();
        slots = new House[SLOTS];
        for (int slot = 0; slot < slots.length; slot++) {
            slots[slot] = new House();
        }
        plans = new Plans();
        owners = new Owners();
        sightings = new Sightings();
        museums = new Museums();
        chances = new Chances();
    }

    // ---- the house

    public int write(int letter) {
        if (letter < 0 || letter > 255) {
            return OUTSIDE;
        }
        return text.append(letter) ? text.length : FULL;
    }

    public int wipe() {
        int was = text.length;
        text.length = 0;
        return was;
    }

    public int fault() {
        return text.firstFault();
    }

    public int house() {
        if (text.firstFault() != NONE) {
            return STATE;
        }
        now.readFrom(text);
        row.clear();
        filledSlots = 0;
        return now.size;
    }

    public int thing(int thing, int what) {
        if (!now.has(thing)) {
            return UNKNOWN;
        }
        if (what >= 0 && what < FIGURES) {
            return now.figure(thing, what);
        }
        switch (what) {
            case 7: return now.guarded >> thing & 1;
            case 8: return now.broken >> thing & 1;
            case 9: return now.hidden >> thing & 1;
            case 10: return now.claimed >> thing & 1;
            case 11: return now.lastOnes() >> thing & 1;
            default: return OUTSIDE;
        }
    }

    public int alike(int thing) {
        return now.has(thing) ? now.alikeTo(thing, now.word, now.shown()) : UNKNOWN;
    }

    public int price(int thing) {
        return now.has(thing) ? now.priceOf(thing) : UNKNOWN;
    }

    // ---- acts

    public int broken(int thing) {
        int refused = tryAct(BREAK, thing);
        return refused < 0 ? refused : now.lastOnes();
    }

    public int forge(int marks, int owner) {
        if (marks < 0 || marks > 9999 || owner < 0 || owner >= OWNERS) {
            return OUTSIDE;
        }
        if (now.size >= MOST_THINGS) {
            return FULL;
        }
        row.remember(now);
        return now.addForged(marks, owner);
    }

    public int hide(int thing) {
        int refused = tryAct(HIDE, thing);
        return refused < 0 ? refused : now.hidden >> thing & 1;
    }

    public int claim(int thing) {
        int refused = tryAct(CLAIM, thing);
        return refused < 0 ? refused : Integer.bitCount(now.claimed);
    }

    public int guard(int thing) {
        int refused = tryAct(GUARD, thing);
        return refused < 0 ? refused : now.guarded >> thing & 1;
    }

    public int word(int word) {
        if (word < 1 || word > MOST_WORD) {
            return OUTSIDE;
        }
        if (word == now.word) {
            return STATE;
        }
        row.remember(now);
        return now.changeWord(word);
    }

    public int year() {
        row.remember(now);
        now.year++;
        return now.year;
    }

    public int undo() {
        return row.takeBack(now) ? row.length : STATE;
    }

    public int judge(int n, int row) {
        if (n < 1 || n > 4) {
            return OUTSIDE;
        }
        if (row < 0 || withoutLast(row, n) != 0) {
            return OUTSIDE;
        }
        trial.copyFrom(now);
        for (int place = 0; place < n; place++) {
            int told = withoutLast(row, n - 1 - place) % 100;
            int act = told / 10;
            int thing = told % 10;
            if (!trial.canBe(act, thing)) {
                return place;
            }
            trial.perform(act, thing);
        }
        return NONE;
    }

    private int tryAct(int act, int thing) {
        if (!now.has(thing)) {
            return UNKNOWN;
        }
        if (!now.canBe(act, thing)) {
            return STATE;
        }
        row.remember(now);
        now.perform(act, thing);
        return 0;
    }

    // ---- plans

    public int campaign(int thing) {
        if (!now.has(thing)) {
            return UNKNOWN;
        }
        if (!holds(now.shown(), thing)) {
            return STATE;
        }
        plans.seekCampaign(now, thing);
        return plans.cost;
    }

    public int campaignBy(int thing, int what) {
        if (!now.has(thing)) {
            return UNKNOWN;
        }
        if (what < 0 || what > 1) {
            return OUTSIDE;
        }
        if (!holds(now.shown(), thing)) {
            return STATE;
        }
        plans.seekCampaign(now, thing);
        return what == 0 ? plans.wordThen : plans.toBreak;
    }

    public int copy(int thing) {
        if (!now.has(thing)) {
            return UNKNOWN;
        }
        if (!holds(now.claimed, thing)) {
            return STATE;
        }
        return plans.leastCopy(now, thing);
    }

    public int bestWord(int what) {
        if (what < 0 || what > 1) {
            return OUTSIDE;
        }
        int best = plans.wordOfMostLast(now);
        return what == 0 ? best : plans.lastBy(now, best);
    }

    public int rests(int what) {
        if (what < 0 || what > 4) {
            return OUTSIDE;
        }
        owners.weigh(now);
        switch (what) {
            case 0: return owners.resting;
            case 4: return owners.resting > 0 ? 1 : 0;
            default: return owners.firstChoice(what - 1);
        }
    }

    // ---- sightings

    public int sight(int thing, int k, boolean atLeast) {
        if (!now.has(thing)) {
            return UNKNOWN;
        }
        if (k < 0 || k > 8) {
            return OUTSIDE;
        }
        return sightings.append(thing, k, atLeast) ? sightings.length : FULL;
    }

    public int unsight() {
        int was = sightings.length;
        sightings.length = 0;
        return was;
    }

    public int worlds(int what) {
        if (what < 0 || what > 2) {
            return OUTSIDE;
        }
        sightings.survey(now);
        if (what == 0) {
            return sightings.total;
        }
        if (sightings.total == 0) {
            return NONE;
        }
        return what == 1 ? sightings.inAll : sightings.inNone;
    }

    public int toSeek() {
        sightings.survey(now);
        return sightings.mostTelling(now);
    }

    // ---- museums, chances

    public int byTurns(int n, int what) {
        if (n < 0 || n > 4 || what < 0 || what > 1) {
            return OUTSIDE;
        }
        museums.play(now, n);
        return what == 0 ? museums.ahead + 1000 : museums.firstMove;
    }

    public int chance(int thing, int x, boolean upper) {
        if (!now.has(thing)) {
            return UNKNOWN;
        }
        if (x < 0 || x > 10) {
            return OUTSIDE;
        }
        chances.weigh(now, thing, x);
        return upper ? chances.upper : chances.lower;
    }

    public long seed(long v) {
        long was = chances.seed;
        chances.seed = v;
        return was;
    }

    public int years(int m, int t) {
        if (m < 1 || m > 30 || t < 0 || t > 10) {
            return OUTSIDE;
        }
        return chances.lastAfter(now, m, t);
    }

    // ---- slots

    public int keep(int slot) {
        House kept = slotAt(slot);
        if (kept == null) {
            return UNKNOWN;
        }
        kept.copyFrom(now);
        filledSlots |= 1 << slot;
        return now.size;
    }

    public int again(int slot) {
        House kept = slotAt(slot);
        if (kept == null) {
            return UNKNOWN;
        }
        if (!holds(filledSlots, slot)) {
            return STATE;
        }
        now.copyFrom(kept);
        row.clear();
        return now.size;
    }

    public int count(int what) {
        switch (what) {
            case 0: return text.length;
            case 1: return now.size;
            case 2: return now.word;
            case 3: return now.year;
            case 4: return now.shown();
            case 5: return now.lastOnes();
            case 6: return now.claimed;
            case 7: return now.unseen();
            case 8: return now.broken;
            case 9: return row.length;
            case 10: return sightings.length;
            default: return OUTSIDE;
        }
    }

    private House slotAt(int slot) {
        return slot >= 0 && slot < slots.length ? slots[slot] : null;
    }

    private static boolean holds(int set, int thing) {
        return thing >= 0 && thing < MOST_THINGS && (set >> thing & 1) == 1;
    }

    /** A row of acts, told as two figures each, without its last ones. */
    private static int withoutLast(int row, int acts) {
        int rest = row;
        for (int act = 0; act < acts; act++) {
            rest /= 100;
        }
        return rest;
    }

    private static int at(int[] row, int place) {
        return row != null && place >= 0 && place < row.length ? row[place] : 0;
    }

    private static void put(int[] row, int place, int value) {
        if (row != null && place >= 0 && place < row.length) {
            row[place] = value;
        }
    }

    private static int[] rowAt(int[][] rows, int place) {
        return rows != null && place >= 0 && place < rows.length ? rows[place] : null;
    }

    /** The letters from which a house is read. */
    static final class Text {
        private static final int HEAD = 2, THING_LETTERS = 9;

        private final int[] letters = new int[MOST_LETTERS];
        int length;

        boolean append(int letter) {
            if (length < 0 || length >= letters.length) {
                return false;
            }
            letters[length] = letter;
            length++;
            return true;
        }

        int firstFault() {
            for (int place = 0; place < length; place++) {
                if (!fits(place)) {
                    return place;
                }
            }
            boolean ended = length >= HEAD && (length - HEAD) % THING_LETTERS == 0;
            return ended ? NONE : length;
        }

        int things() {
            return Math.max(0, (length - HEAD) / THING_LETTERS);
        }

        int wordTold() {
            return at(letters, 1) - '0';
        }

        int figureTold(int thing, int what) {
            return at(letters, HEAD + thing * THING_LETTERS + 1 + what) - '0';
        }

        private boolean fits(int place) {
            if (place == 0) {
                return at(letters, place) == 'K';
            }
            if (place == 1) {
                return isWithin(place, '1', '4');
            }
            int inThing = (place - HEAD) % THING_LETTERS;
            switch (inThing - 1) {
                case -1: return at(letters, place) == 'X';
                case OWNER: return isWithin(place, '0', '2');
                case WORTH: return isWithin(place, '1', '9');
                case COST: return isWithin(place, '1', '9');
                case GUARDED: return isWithin(place, '0', '1');
                default: return isWithin(place, '0', '9');
            }
        }

        private boolean isWithin(int place, int least, int most) {
            int letter = at(letters, place);
            return letter >= least && letter <= most;
        }
    }

    /** Things, the word and the year, with what has been done to them. */
    static final class House {
        /** The figures of each thing as one number, four bits a figure, so that marks are compared at once. */
        private final int[] tags = new int[MOST_THINGS];
        int size;
        int word = MOST_WORD;
        int year;
        int guarded;
        int broken;
        int hidden;
        int claimed;

        void copyFrom(House other) {
            if (other == null) {
                return;
            }
            for (int thing = 0; thing < tags.length; thing++) {
                tags[thing] = at(other.tags, thing);
            }
            size = other.size;
            word = other.word;
            year = other.year;
            guarded = other.guarded;
            broken = other.broken;
            hidden = other.hidden;
            claimed = other.claimed;
        }

        void readFrom(Text text) {
            size = Math.min(text.things(), MOST_THINGS);
            word = text.wordTold();
            year = 0;
            guarded = 0;
            broken = 0;
            hidden = 0;
            claimed = 0;
            for (int thing = 0; thing < tags.length && thing < size; thing++) {
                tags[thing] = 0;
                for (int what = 0; what < FIGURES; what++) {
                    tags[thing] |= text.figureTold(thing, what) << BITS * what;
                }
                guarded |= text.figureTold(thing, GUARDED) << thing;
            }
        }

        boolean has(int thing) {
            return thing >= 0 && thing < size;
        }

        int figure(int thing, int what) {
            return at(tags, thing) >> BITS * what & ANY_FIGURE;
        }

        int all() {
            return (1 << size) - 1;
        }

        int there() {
            return all() & ~broken;
        }

        int shown() {
            return there() & ~hidden;
        }

        /** Hidden ones that are there: a broken one keeps its mark of being hidden. */
        int unseen() {
            return there() & hidden;
        }

        int breakable() {
            return there() & ~claimed & ~guarded;
        }

        /** Other ones of a set that are alike to a thing, by a word that need not be the one of now. */
        int alikeTo(int thing, int byWord, int among) {
            int found = 0;
            for (int other = 0; other < size; other++) {
                if (other != thing && holds(among, other) && Integer.bitCount(sameMarks(thing, other)) >= byWord) {
                    found |= 1 << other;
                }
            }
            return found;
        }

        /** The marks, as bits, that are the same in both. */
        int sameMarks(int thing, int other) {
            int differing = at(tags, thing) ^ at(tags, other);
            int same = 0;
            for (int mark = 0; mark < MARKS; mark++) {
                if ((differing >> BITS * mark & ANY_FIGURE) == 0) {
                    same |= 1 << mark;
                }
            }
            return same;
        }

        int lastOnes() {
            return lastOnesBy(word, shown());
        }

        int lastOnesBy(int byWord, int among) {
            int last = 0;
            for (int thing = 0; thing < size; thing++) {
                if (holds(among, thing) && alikeTo(thing, byWord, among) == 0) {
                    last |= 1 << thing;
                }
            }
            return last;
        }

        int priceOf(int thing) {
            int shown = shown();
            if (!holds(shown, thing)) {
                return 0;
            }
            return shareOf(figure(thing, WORTH), alikeTo(thing, word, shown) | 1 << thing);
        }

        /** What a thing of a worth brings while those of a set are all like it, itself one of them. */
        static int shareOf(int worth, int sharers) {
            int many = Integer.bitCount(sharers);
            return many > 0 ? 12 * worth / many : 0;
        }

        boolean canBe(int act, int thing) {
            if (!has(thing)) {
                return false;
            }
            switch (act) {
                case BREAK: return holds(breakable(), thing);
                case CLAIM: return holds(lastOnesBy(word, shown()) & ~claimed, thing);
                case HIDE: return holds(there() & ~claimed, thing);
                case GUARD: return holds(there(), thing);
                default: return false;
            }
        }

        void perform(int act, int thing) {
            int one = 1 << thing;
            switch (act) {
                case BREAK:
                    broken |= one;
                    break;
                case CLAIM:
                    claimed |= one;
                    break;
                case HIDE:
                    hidden ^= one;
                    if (holds(shown(), thing)) {
                        claimed &= ~alikeTo(thing, word, claimed);
                    }
                    break;
                case GUARD:
                    guarded ^= one;
                    break;
                default:
                    break;
            }
        }

        int addForged(int marks, int owner) {
            int forged = size;
            int tag = owner << BITS * OWNER | 1 << BITS * WORTH | 1 << BITS * COST;
            int rest = marks;
            for (int mark = MARKS - 1; mark >= 0; mark--) {
                tag |= rest % 10 << BITS * mark;
                rest /= 10;
            }
            put(tags, forged, tag);
            size++;
            claimed &= ~alikeTo(forged, word, claimed);
            return forged;
        }

        int changeWord(int newWord) {
            word = newWord;
            int freed = claimed & ~lastOnes();
            claimed &= ~freed;
            return freed;
        }
    }

    /** How the house stood before each act that can be undone: a ring, so that the first one can be forgotten. */
    static final class Row {
        private final House[] before = new House[MOST_ACTS];
        private int next;
        int length;

        Row() {
            for (int place = 0; place < before.length; place++) {
                before[place] = new House();
            }
        }

        void clear() {
            length = 0;
        }

        void remember(House house) {
            House free = placeAt(next);
            if (free == null) {
                return;
            }
            free.copyFrom(house);
            next = (next + 1) % MOST_ACTS;
            length = Math.min(length + 1, MOST_ACTS);
        }

        boolean takeBack(House house) {
            int last = (next + MOST_ACTS - 1) % MOST_ACTS;
            House was = placeAt(last);
            if (length <= 0 || was == null) {
                return false;
            }
            house.copyFrom(was);
            next = last;
            length--;
            return true;
        }

        private House placeAt(int place) {
            return place >= 0 && place < before.length ? before[place] : null;
        }
    }

    /** Campaigns, copies and the best word, found by trying all that there are. */
    static final class Plans {
        int cost;
        int wordThen;
        int toBreak;

        void seekCampaign(House house, int thing) {
            cost = NONE;
            wordThen = NONE;
            toBreak = NONE;
            for (int byWord = 1; byWord <= MOST_WORD; byWord++) {
                int others = house.alikeTo(thing, byWord, house.shown());
                if ((others & house.claimed) != 0) {
                    continue;
                }
                int sum = 3 * Math.abs(byWord - house.word) + costToBreak(house, others);
                if (cost == NONE || sum < cost) {
                    cost = sum;
                    wordThen = byWord;
                    toBreak = others;
                }
            }
        }

        int leastCopy(House house, int thing) {
            int least = NONE;
            for (int marks = 0; marks < 1 << MARKS; marks++) {
                boolean fewer = least == NONE || Integer.bitCount(marks) < Integer.bitCount(least);
                if (fewer && frees(house, thing, marks)) {
                    least = marks;
                }
            }
            return least;
        }

        int wordOfMostLast(House house) {
            int best = 1;
            for (int byWord = 2; byWord <= MOST_WORD; byWord++) {
                int more = lastBy(house, byWord) - lastBy(house, best);
                boolean nearer = Math.abs(byWord - house.word) < Math.abs(best - house.word);
                if (more > 0 || more == 0 && nearer) {
                    best = byWord;
                }
            }
            return best;
        }

        int lastBy(House house, int byWord) {
            return Integer.bitCount(house.lastOnesBy(byWord, house.shown()));
        }

        private static int costToBreak(House house, int set) {
            int sum = 0;
            for (int thing = 0; thing < MOST_THINGS; thing++) {
                if (holds(set, thing)) {
                    sum += house.figure(thing, COST) + (holds(house.guarded, thing) ? 5 : 0);
                }
            }
            return sum;
        }

        private static boolean frees(House house, int thing, int marks) {
            if (Integer.bitCount(marks) < house.word) {
                return false;
            }
            for (int other = 0; other < MOST_THINGS; other++) {
                boolean looked = other != thing && holds(house.shown(), other);
                if (looked && Integer.bitCount(marks & house.sameMarks(thing, other)) >= house.word) {
                    return false;
                }
            }
            return true;
        }
    }

    /** Which things are alike by the word of now, worth and cost: what a search looks at over and over. */
    static final class Goods {
        private final int[] near = new int[MOST_THINGS];
        private final int[] worths = new int[MOST_THINGS];
        private final int[] costs = new int[MOST_THINGS];

        void learn(House house) {
            for (int thing = 0; thing < MOST_THINGS; thing++) {
                boolean told = house.has(thing);
                near[thing] = told ? house.alikeTo(thing, house.word, house.all()) : 0;
                worths[thing] = told ? house.figure(thing, WORTH) : 0;
                costs[thing] = told ? house.figure(thing, COST) : 0;
            }
        }

        int worth(int thing) {
            return at(worths, thing);
        }

        int cost(int thing) {
            return at(costs, thing);
        }

        int lastAmong(int shown) {
            int last = 0;
            for (int thing = 0; thing < MOST_THINGS; thing++) {
                if ((shown & 1 << thing) != 0 && (near[thing] & shown) == 0) {
                    last |= 1 << thing;
                }
            }
            return last;
        }

        int pricesAmong(int set, int shown) {
            int sum = 0;
            for (int thing = 0; thing < MOST_THINGS; thing++) {
                if ((set & shown & 1 << thing) != 0) {
                    sum += House.shareOf(worths[thing], near[thing] & shown | 1 << thing);
                }
            }
            return sum;
        }
    }

    /** The owners that break each other's things; a choice is 0 for none, else 1 and the thing. */
    static final class Owners {
        private static final int CHOICES = MOST_THINGS + 1;
        private static final int MOST_BROKEN = OWNERS;

        private final Goods goods = new Goods();
        private final int[] choosable = new int[OWNERS];
        private final int[][] prices = new int[OWNERS][1 << MOST_THINGS];
        private final int[][] best = new int[OWNERS][CHOICES * CHOICES];
        private int firstResting;
        int resting;

        void weigh(House house) {
            goods.learn(house);
            for (int owner = 0; owner < OWNERS; owner++) {
                learn(house, owner);
            }
            resting = 0;
            firstResting = NONE;
            // What is best for an owner is known only when all its choices have been gone through.
            goThrough(false);
            goThrough(true);
        }

        int firstChoice(int owner) {
            if (firstResting < 0) {
                return NONE;
            }
            int chosen = firstResting % CHOICES;
            if (owner == 0) {
                chosen = firstResting / (CHOICES * CHOICES);
            } else if (owner == 1) {
                chosen = firstResting / CHOICES % CHOICES;
            }
            return chosen == 0 ? NONE : chosen - 1;
        }

        private void learn(House house, int owner) {
            int shown = house.shown();
            int prey = shown & house.breakable();
            int owned = 0;
            for (int thing = 0; thing < house.size; thing++) {
                owned |= house.figure(thing, OWNER) == owner ? 1 << thing : 0;
            }
            put(choosable, owner, (prey & ~owned) << 1 | 1);
            int[] pricesOf = rowAt(prices, owner);
            for (int broken = 0; broken < 1 << MOST_THINGS; broken++) {
                if ((broken & ~prey) == 0 && Integer.bitCount(broken) <= MOST_BROKEN) {
                    put(pricesOf, broken, goods.pricesAmong(owned, shown & ~broken));
                }
            }
            int[] bestOf = rowAt(best, owner);
            for (int others = 0; others < CHOICES * CHOICES; others++) {
                put(bestOf, others, -MUCH);
            }
        }

        private void goThrough(boolean bestIsKnown) {
            for (int first = 0; first < CHOICES; first++) {
                for (int second = 0; second < CHOICES; second++) {
                    for (int third = 0; third < CHOICES; third++) {
                        if (!mayChoose(first, second, third)) {
                            continue;
                        }
                        if (!bestIsKnown) {
                            raiseBest(first, second, third);
                        } else if (isRest(first, second, third)) {
                            tell((first * CHOICES + second) * CHOICES + third);
                        }
                    }
                }
            }
        }

        private boolean mayChoose(int first, int second, int third) {
            return (at(choosable, 0) >> first & at(choosable, 1) >> second & at(choosable, 2) >> third & 1) != 0;
        }

        private void tell(int rest) {
            firstResting = resting == 0 ? rest : firstResting;
            resting++;
        }

        private void raiseBest(int first, int second, int third) {
            int broken = (1 << first | 1 << second | 1 << third) >> 1;
            raise(0, second * CHOICES + third, has(0, first, broken));
            raise(1, first * CHOICES + third, has(1, second, broken));
            raise(2, first * CHOICES + second, has(2, third, broken));
        }

        private void raise(int owner, int others, int value) {
            int[] bestOf = rowAt(best, owner);
            put(bestOf, others, Math.max(at(bestOf, others), value));
        }

        private boolean isRest(int first, int second, int third) {
            int broken = (1 << first | 1 << second | 1 << third) >> 1;
            return has(0, first, broken) >= at(rowAt(best, 0), second * CHOICES + third)
                && has(1, second, broken) >= at(rowAt(best, 1), first * CHOICES + third)
                && has(2, third, broken) >= at(rowAt(best, 2), first * CHOICES + second);
        }

        private int has(int owner, int choice, int broken) {
            return at(rowAt(prices, owner), broken) - (choice == 0 ? 0 : goods.cost(choice - 1));
        }
    }

    /** What is known of hidden things, and the worlds that it leaves. */
    static final class Sightings {
        private final int[] things = new int[MOST_SIGHTED];
        private final int[] bounds = new int[MOST_SIGHTED];
        private final boolean[] lower = new boolean[MOST_SIGHTED];
        private final int[] looked = new int[MOST_SIGHTED];
        private final int[] worldsWith = new int[MOST_THINGS];
        int length;
        int total;
        int inAll;
        int inNone;

        boolean append(int thing, int bound, boolean atLeast) {
            if (length < 0 || length >= MOST_SIGHTED) {
                return false;
            }
            things[length] = thing;
            bounds[length] = bound;
            lower[length] = atLeast;
            length++;
            return true;
        }

        void survey(House house) {
            int hidden = house.unseen();
            learn(house);
            total = 0;
            inAll = hidden;
            inNone = hidden;
            for (int world = 0; world < 1 << MOST_THINGS; world++) {
                if ((world & ~hidden) == 0 && isSo(world | house.shown(), house.size)) {
                    total++;
                    inAll &= world;
                    inNone &= ~world;
                    tally(world);
                }
            }
        }

        int mostTelling(House house) {
            int hidden = total > 0 ? house.unseen() : 0;
            int best = NONE;
            int most = -1;
            for (int thing = 0; thing < MOST_THINGS; thing++) {
                int fewer = Math.min(worldsWith[thing], total - worldsWith[thing]);
                if (holds(hidden, thing) && fewer > most) {
                    best = thing;
                    most = fewer;
                }
            }
            return best;
        }

        private void learn(House house) {
            for (int place = 0; place < MOST_SIGHTED; place++) {
                int thing = things[place];
                looked[place] = house.has(thing) ? house.alikeTo(thing, house.word, house.all()) | 1 << thing : 0;
            }
            for (int thing = 0; thing < MOST_THINGS; thing++) {
                worldsWith[thing] = 0;
            }
        }

        private boolean isSo(int there, int size) {
            for (int place = 0; place < MOST_SIGHTED && place < length; place++) {
                boolean enough = Integer.bitCount(looked[place] & there) >= bounds[place];
                if (things[place] < size && enough != lower[place]) {
                    return false;
                }
            }
            return true;
        }

        private void tally(int world) {
            for (int thing = 0; thing < MOST_THINGS; thing++) {
                worldsWith[thing] += world >> thing & 1;
            }
        }
    }

    /** Two museums by turns; a move is 0 for nothing, 1 and the thing that it claims, 11 and the one that it breaks. */
    static final class Museums {
        private static final int CLAIMS = 1, BREAKS = 11, MOST_MOVE = BREAKS + MOST_THINGS - 1;

        private final Goods goods = new Goods();
        private int things;
        private int hidden;
        private int guarded;
        int ahead;
        int firstMove;

        void play(House house, int turns) {
            goods.learn(house);
            things = house.all();
            hidden = house.hidden;
            guarded = house.guarded;
            ahead = lead(this, turns, house.broken, house.claimed, -MUCH, MUCH);
        }

        /**
         * By how much who is at turn gets ahead. What can not come out between low and high need not be told
         * exactly: the other one would not let it come so far, or there is a better move already.
         */
        private static int lead(Museums game, int turns, int broken, int claimed, int low, int high) {
            if (turns <= 0) {
                game.firstMove = 0;
                return 0;
            }
            int claims = game.goods.lastAmong(game.things & ~broken & ~game.hidden) & ~claimed;
            if (turns == 1) {
                return game.leadByLastTurn(claims);
            }
            int breaks = game.things & ~broken & ~claimed & ~game.guarded;
            int best = -MUCH;
            int bestMove = 0;
            for (int move = 0; move <= MOST_MOVE && best < high; move++) {
                int claim = move < BREAKS ? 1 << move >> CLAIMS & claims : 0;
                int broke = move < BREAKS ? 0 : 1 << move - BREAKS & breaks;
                if (move == 0 || (claim | broke) != 0) {
                    int gain = game.gainOf(move);
                    int left = gain - Math.max(low, best);
                    int then = gain - lead(game, turns - 1, broken | broke, claimed | claim, gain - high, left);
                    if (then > best) {
                        best = then;
                        bestMove = move;
                    }
                }
            }
            // Written last of all by the first turn, behind all turns that it looked ahead to.
            game.firstMove = bestMove;
            return best;
        }

        /** To break at the last turn only costs, so nothing is always better then. */
        private int leadByLastTurn(int claims) {
            int best = 0;
            firstMove = 0;
            for (int thing = 0; thing < MOST_THINGS; thing++) {
                if ((claims & 1 << thing) != 0 && goods.worth(thing) > best) {
                    best = goods.worth(thing);
                    firstMove = CLAIMS + thing;
                }
            }
            return best;
        }

        private int gainOf(int move) {
            if (move >= BREAKS) {
                return -goods.cost(move - BREAKS);
            }
            return move >= CLAIMS ? goods.worth(move - CLAIMS) : 0;
        }
    }

    /** Chances as fractions, and years by the seed. */
    static final class Chances {
        private static final long TIMES = 6364136223846793005L, AND = 1442695040888963407L;

        long seed;
        int upper;
        int lower;

        void weigh(House house, int thing, int tenths) {
            int shown = house.shown();
            int inDanger = shown & house.breakable();
            int others = house.alikeTo(thing, house.word, shown);
            upper = 0;
            lower = 1;
            if (!holds(shown, thing) || (others & ~inDanger) != 0) {
                return;
            }
            upper = holds(inDanger, thing) ? 10 - tenths : 10;
            lower = 10;
            for (int broken = 0; broken < Integer.bitCount(others); broken++) {
                upper *= tenths;
                lower *= 10;
            }
            reduce();
        }

        int lastAfter(House house, int times, int tenths) {
            int shown = house.shown();
            int inDanger = shown & house.breakable();
            for (int time = 0; time < times; time++) {
                for (int thing = 0; thing < MOST_THINGS; thing++) {
                    if (!holds(shown & inDanger, thing)) {
                        continue;
                    }
                    seed = seed * TIMES + AND;
                    if ((seed >>> 33) % 10 < tenths) {
                        shown &= ~(1 << thing);
                    }
                }
            }
            return house.lastOnesBy(house.word, shown);
        }

        private void reduce() {
            int common = lower;
            int rest = upper;
            // Each two steps halve the greater one, so that 64 are enough for any two ints.
            for (int step = 0; step < 64 && rest != 0; step++) {
                int left = common % rest;
                common = rest;
                rest = left;
            }
            if (common != 0) {
                upper /= common;
                lower /= common;
            }
        }
    }
}
