import java.util.Arrays;

/**
 * Pockets that have jurisdiction: what each lets in, what may be moved where, what drops by night.
 * Every row is made when the object is made, so no later call makes anything.
 */
public final class PocketLaws {
    public static final int BAD = -1, STATE = -2, FULL = -3, NONE = -9;
    public static final int NO = -1000000;

    private static final int POCKETS = 6, THINGS = 6, SORTS = 6, TREATIES = 12;
    private static final int LETTERS = 200;
    private static final int NO_OUTER = 9;
    private static final int LAST_DAY = 999;
    private static final int KNOWN = 10;
    private static final int IMAGES = 2;
    private static final int NIGHTS = 20, ODD_NIGHTS = 6;
    private static final int TENTHS = 10;
    /** Above any sum of taxes, and low enough to be added to. */
    private static final int FAR = 1000000;

    private final Text text;
    private final Now present;
    private final Past past;
    private final Now[] images;
    private final boolean[] kept;
    private final Stowing stowing;
    private final int[] cost;
    private final int[] chance;
    private final int[] chanceBehind;
    private Realm told;
    private Realm spare;
    private long traced;

    public PocketLaws() {
        text = new Text();
        present = new Now();
        past = new Past();
        images = new Now[IMAGES];
        for (int i = 0; i < IMAGES; i++) {
            images[i] = new Now();
        }
        kept = new boolean[IMAGES];
        stowing = new Stowing();
        cost = new int[POCKETS];
        chance = new int[POCKETS];
        chanceBehind = new int[POCKETS];
        told = new Realm();
        spare = new Realm();
        told.forgetAll();
        told.settleLaws();
    }

    // ---- the realm

    public int type(int letter) {
        if (!within(letter, 0, 255)) {
            return BAD;
        }
        if (text.length >= LETTERS) {
            return FULL;
        }
        text.letters[text.length] = letter;
        text.length++;
        return text.length;
    }

    public int clear() {
        int had = text.length;
        text.length = 0;
        return had;
    }

    public int realm() {
        int items = text.readInto(spare);
        if (items < 0) {
            return items;
        }
        Realm before = told;
        told = spare;
        spare = before;
        told.settleLaws();
        present.begin(told);
        past.known = 0;
        for (int i = 0; i < IMAGES; i++) {
            kept[i] = false;
        }
        text.length = 0;
        return items;
    }

    public int pocket(int k, int what) {
        if (!isPocket(k)) {
            return BAD;
        }
        switch (what) {
            case 0: return told.size[k];
            case 1: return told.forbids[k];
            case 2: return told.tax[k];
            case 3: return told.outer[k];
            case 4: return filled(k);
            case 5: return told.depth(k);
            case 6: return told.seams[k];
            case 7: return told.hole[k];
            default: return BAD;
        }
    }

    public int thing(int t, int what) {
        if (!isThing(t)) {
            return BAD;
        }
        switch (what) {
            case 0: return told.sort[t];
            case 1: return told.bulk[t];
            case 2: return told.worth[t];
            case 3: return present.where[t];
            case 4: return isOutlawed(t) ? 1 : 0;
            default: return BAD;
        }
    }

    public int letsIn(int k, int sort) {
        if (!isPocket(k) || !within(sort, 0, SORTS - 1)) {
            return BAD;
        }
        return has(told.lets[k], sort) ? 1 : 0;
    }

    public int fixed(int sort) {
        return within(sort, 0, SORTS - 1) ? told.fixedPoints[sort] : BAD;
    }

    public int now(int what) {
        switch (what) {
            case 0: return present.days;
            case 1: return present.paid;
            case 2: return outlawed();
            case 3: return told.parts();
            case 4: return past.known;
            default: return BAD;
        }
    }

    // ---- what is done

    public int moves(int t, int k) {
        if (!isThing(t) || !isPocket(k)) {
            return BAD;
        }
        int from = present.where[t];
        int sort = told.sort[t];
        if (!told.opens(from, k, sort) || !hasRoom(k, told.bulk[t])) {
            return STATE;
        }
        past.push(present);
        int price = told.price(from, k, sort);
        present.where[t] = k;
        present.paid += price;
        return price;
    }

    public int night() {
        if (present.days >= LAST_DAY) {
            return STATE;
        }
        past.push(present);
        int dropped = 0;
        for (int t = 0; t < told.things; t++) {
            if (fallsThrough(t)) {
                dropped++;
            }
        }
        present.days++;
        return dropped;
    }

    public int undo() {
        if (past.known == 0) {
            return STATE;
        }
        past.popInto(present);
        return past.known;
    }

    // ---- ways, stowing

    public int way(int t, int k, int what) {
        if (!isThing(t) || !isPocket(k) || !within(what, 0, 1)) {
            return BAD;
        }
        return least(t, k, what == 1, NONE, NONE);
    }

    public int stow(int t) {
        if (t != -1 && !isThing(t)) {
            return BAD;
        }
        int fewest = stowing.fewestMoved(told, present);
        return fewest == NONE || t == -1 ? fewest : stowing.plan[t];
    }

    public int hoard(int k) {
        if (!isPocket(k)) {
            return BAD;
        }
        int most = 0;
        for (int chosen = 0; chosen < 1 << told.things; chosen++) {
            most = Math.max(most, told.worthOf(chosen, k));
        }
        return most;
    }

    public int saves(int t, int k) {
        if (!isThing(t) || !isPocket(k)) {
            return BAD;
        }
        int sort = told.sort[t];
        int cheapest = least(t, k, true, NONE, NONE);
        int found = NONE;
        for (int a = 0; a < told.pockets; a++) {
            for (int b = a + 1; b < told.pockets; b++) {
                if (has(told.seams[a], b) && !has(told.treaty[a][b], sort)) {
                    int then = least(t, k, true, a, b);
                    if (then < cheapest) {
                        cheapest = then;
                        found = 100 * a + 10 * b + sort;
                    }
                }
            }
        }
        return found;
    }

    // ---- holes

    public int drops(int t, int n) {
        if (!isThing(t) || !within(n, 0, NIGHTS)) {
            return BAD;
        }
        return told.behindNights(present.where[t], told.bulk[t], n);
    }

    public int lay(int t, int n) {
        if (!isThing(t) || !within(n, 0, NIGHTS)) {
            return BAD;
        }
        int bits = 0;
        for (int k = 0; k < told.pockets; k++) {
            if (told.behindNights(k, told.bulk[t], n) == present.where[t]) {
                bits |= 1 << k;
            }
        }
        return bits;
    }

    public int stitches(int from, int to, int what) {
        if (!isPocket(from) || !isPocket(to) || from == to || !within(what, 0, 1)) {
            return BAD;
        }
        // A pocket has one hole at most, so there is one path at most, and one stitch cuts it.
        boolean needed = told.dropsAsFarAs(from, to, NONE);
        if (what == 0) {
            return needed ? 1 : 0;
        }
        return needed ? told.firstStitch(from, to) : NONE;
    }

    public int odds(int t, int k, int p, int n, int what) {
        if (!isThing(t) || !isPocket(k) || !within(what, 0, 1)) {
            return BAD;
        }
        if (!within(p, 0, TENTHS) || !within(n, 0, ODD_NIGHTS)) {
            return BAD;
        }
        Arrays.fill(chance, 0);
        chance[present.where[t]] = 1;
        int lower = 1;
        for (int i = 0; i < n; i++) {
            spreadChance(told.bulk[t], p);
            lower *= TENTHS;
        }
        int upper = chance[k];
        int common = commonDivisor(upper, lower);
        return (what == 0 ? upper : lower) / common;
    }

    // ---- kinds, images

    public int rate(int kind, int k) {
        if (!isPocket(k)) {
            return NO;
        }
        switch (kind) {
            case 0: return asPocket(k);
            case 1: return asCoat(k);
            case 2: return asPurse(k);
            case 3: return asLeague(k);
            case 4: return asBeggar(k);
            case 5: return asLining(k);
            default: return NO;
        }
    }

    public int keep(int image) {
        if (!within(image, 0, IMAGES - 1)) {
            return BAD;
        }
        images[image].become(present);
        kept[image] = true;
        return present.days;
    }

    public int back(int image) {
        if (!within(image, 0, IMAGES - 1)) {
            return BAD;
        }
        if (!kept[image]) {
            return STATE;
        }
        present.become(images[image]);
        past.known = 0;
        return present.days;
    }

    public int count(int what) {
        switch (what) {
            case 0: return told.pockets;
            case 1: return told.things;
            case 2: return told.treaties;
            case 3: return text.length;
            default: return BAD;
        }
    }

    public long trace() {
        return traced;
    }

    // ---- helpers of the calls

    private boolean isPocket(int k) {
        return within(k, 0, told.pockets - 1);
    }

    private boolean isThing(int t) {
        return within(t, 0, told.things - 1);
    }

    private int filled(int k) {
        int sum = 0;
        for (int t = 0; t < told.things; t++) {
            if (present.where[t] == k) {
                sum += told.bulk[t];
            }
        }
        return sum;
    }

    private boolean hasRoom(int k, int bulk) {
        return filled(k) + bulk <= told.size[k];
    }

    private boolean isOutlawed(int t) {
        return !has(told.lets[present.where[t]], told.sort[t]);
    }

    private int outlawed() {
        int bits = 0;
        for (int t = 0; t < told.things; t++) {
            if (isOutlawed(t)) {
                bits |= 1 << t;
            }
        }
        return bits;
    }

    private boolean fallsThrough(int t) {
        int from = present.where[t];
        int to = told.hole[from];
        if (to == NONE || told.bulk[t] > told.holeFor[from] || !hasRoom(to, told.bulk[t])) {
            return false;
        }
        present.where[t] = to;
        return true;
    }

    /** The fewest moves or, priced, the least paid for them, as if a and b had a treaty for the thing's sort. */
    private int least(int t, int k, boolean priced, int a, int b) {
        Arrays.fill(cost, FAR);
        cost[present.where[t]] = 0;
        // No way that is least comes to a pocket twice, so it has fewer moves than there are pockets.
        for (int round = 1; round < told.pockets; round++) {
            for (int from = 0; from < told.pockets; from++) {
                lowerCosts(from, told.sort[t], priced, a, b);
            }
        }
        return cost[k] < FAR ? cost[k] : NONE;
    }

    private void lowerCosts(int from, int sort, boolean priced, int a, int b) {
        for (int to = 0; to < told.pockets; to++) {
            if (told.opens(from, to, sort)) {
                boolean free = from == a && to == b || from == b && to == a;
                int step = !priced ? 1 : free ? 0 : told.price(from, to, sort);
                cost[to] = Math.min(cost[to], cost[from] + step);
            }
        }
    }

    /** One night: chances are counted in parts of 10 to the nights so far. */
    private void spreadChance(int bulk, int p) {
        Arrays.fill(chanceBehind, 0);
        for (int k = 0; k < told.pockets; k++) {
            int to = told.behindNight(k, bulk);
            chanceBehind[to] += chance[k] * p;
            chanceBehind[k] += chance[k] * (TENTHS - p);
        }
        System.arraycopy(chanceBehind, 0, chance, 0, POCKETS);
    }

    // ---- the bodies of the kinds, each of which asks the one above once

    private int asPocket(int k) {
        traced += 1;
        return filled(k);
    }

    private int asCoat(int k) {
        traced += 10;
        return asPocket(k) + told.size[k];
    }

    private int asPurse(int k) {
        traced += 100;
        return asPocket(k) - told.tax[k];
    }

    private int asLeague(int k) {
        traced += 1000;
        return 2 * asCoat(k);
    }

    private int asBeggar(int k) {
        traced += 10000;
        return asPurse(k) + k;
    }

    private int asLining(int k) {
        traced += 100000;
        return asPocket(k) + told.depth(k);
    }

    // ---- numbers

    private static boolean within(int number, int least, int most) {
        return number >= least && number <= most;
    }

    private static boolean has(int bits, int i) {
        return (bits >> i & 1) == 1;
    }

    /** Never 0: what it answers is divided by. */
    private static int commonDivisor(int upper, int lower) {
        int a = upper;
        int b = lower;
        for (int i = 0; i < 64 && b != 0; i++) {
            int rest = a % b;
            a = b;
            b = rest;
        }
        return Math.max(1, a);
    }

    /** Where things are, what was paid, days: all that can be undone or kept. */
    private static final class Now {
        final int[] where = new int[THINGS];
        int paid;
        int days;

        void become(Now other) {
            System.arraycopy(other.where, 0, where, 0, THINGS);
            paid = other.paid;
            days = other.days;
        }

        void begin(Realm realm) {
            System.arraycopy(realm.home, 0, where, 0, THINGS);
            paid = 0;
            days = 0;
        }
    }

    /** What the latest deeds can be undone to, in a ring, so that the oldest gives way. */
    private static final class Past {
        final Now[] ring = new Now[KNOWN];
        int known;
        int top;

        Past() {
            for (int i = 0; i < KNOWN; i++) {
                ring[i] = new Now();
            }
        }

        void push(Now present) {
            ring[top].become(present);
            top = top + 1 < KNOWN ? top + 1 : 0;
            known = Math.min(KNOWN, known + 1);
        }

        void popInto(Now present) {
            top = top > 0 ? top - 1 : KNOWN - 1;
            present.become(ring[top]);
            known--;
        }
    }

    /** All that a text tells, and what its laws come to. */
    private static final class Realm {
        static final int OWN = 0, AS = 1, NOT_AS = 2;

        int pockets;
        int things;
        int treaties;
        final int[] size = new int[POCKETS];
        final int[] forbids = new int[POCKETS];
        final int[] tax = new int[POCKETS];
        final int[] outer = new int[POCKETS];
        final int[] law = new int[POCKETS];
        final int[] lawOf = new int[POCKETS];
        final int[] seams = new int[POCKETS];
        final int[] hole = new int[POCKETS];
        final int[] holeFor = new int[POCKETS];
        final int[][] treaty = new int[POCKETS][POCKETS];
        final int[] sort = new int[THINGS];
        final int[] bulk = new int[THINGS];
        final int[] worth = new int[THINGS];
        final int[] home = new int[THINGS];
        final int[] lets = new int[POCKETS];
        final int[] fixedPoints = new int[SORTS];

        void forgetAll() {
            pockets = 0;
            things = 0;
            treaties = 0;
            Arrays.fill(law, OWN);
            Arrays.fill(seams, 0);
            Arrays.fill(hole, NONE);
            for (int k = 0; k < POCKETS; k++) {
                Arrays.fill(treaty[k], 0);
            }
        }

        // -- told

        boolean hasRoomFor(int letter) {
            switch (letter) {
                case 'k': return pockets < POCKETS;
                case 't': return things < THINGS;
                case 'y': return treaties < TREATIES;
                default: return true;
            }
        }

        void tell(int letter, int[] said) {
            int a = said[0];
            int b = said[1];
            switch (letter) {
                case 'k': tellPocket(said); break;
                case 'a': tellLaw(AS, a, b); break;
                case 'n': tellLaw(NOT_AS, a, b); break;
                case 's': tellSeam(a, b); break;
                case 'h': tellHole(a, b, said[2]); break;
                case 'y': tellTreaty(a, b, said[2]); break;
                case 't': tellThing(said); break;
                default: break;
            }
        }

        private void tellPocket(int[] said) {
            size[pockets] = said[0];
            forbids[pockets] = said[1];
            tax[pockets] = said[2];
            outer[pockets] = said[3];
            pockets++;
        }

        private void tellLaw(int kind, int a, int b) {
            law[a] = kind;
            lawOf[a] = b;
        }

        private void tellSeam(int a, int b) {
            seams[a] |= 1 << b;
            seams[b] |= 1 << a;
        }

        private void tellHole(int a, int b, int most) {
            hole[a] = b;
            holeFor[a] = most;
        }

        private void tellTreaty(int a, int b, int ofSort) {
            treaty[a][b] |= 1 << ofSort;
            treaty[b][a] |= 1 << ofSort;
            treaties++;
        }

        private void tellThing(int[] said) {
            sort[things] = said[0];
            bulk[things] = said[1];
            worth[things] = said[2];
            home[things] = said[3];
            things++;
        }

        // -- laws

        void settleLaws() {
            Arrays.fill(lets, 0);
            for (int s = 0; s < SORTS; s++) {
                settleLawsOf(s);
            }
        }

        private void settleLawsOf(int s) {
            int ways = 0;
            int inAll = (1 << pockets) - 1;
            for (int allowing = 0; allowing < 1 << pockets; allowing++) {
                if (allHold(allowing, s)) {
                    ways++;
                    inAll &= allowing;
                }
            }
            fixedPoints[s] = ways;
            for (int k = 0; k < pockets; k++) {
                if (ways > 0 && has(inAll, k) && outerLetsIn(k, s)) {
                    lets[k] |= 1 << s;
                }
            }
        }

        /** An outer pocket is told ahead of those within it, so its own answer stands already. */
        private boolean outerLetsIn(int k, int s) {
            return outer[k] == NO_OUTER || has(lets[outer[k]], s);
        }

        private boolean allHold(int allowing, int s) {
            for (int k = 0; k < pockets; k++) {
                if (has(allowing, k) != lawSays(k, allowing, s)) {
                    return false;
                }
            }
            return true;
        }

        private boolean lawSays(int k, int allowing, int s) {
            switch (law[k]) {
                case AS: return has(allowing, lawOf[k]);
                case NOT_AS: return !has(allowing, lawOf[k]);
                default: return !has(forbids[k], s);
            }
        }

        // -- seams

        int depth(int k) {
            int deep = 0;
            int at = outer[k];
            for (int i = 0; i < POCKETS && at != NO_OUTER; i++) {
                deep++;
                at = outer[at];
            }
            return deep;
        }

        int parts() {
            int seen = 0;
            int found = 0;
            for (int k = 0; k < pockets; k++) {
                if (!has(seen, k)) {
                    found++;
                    seen |= partOf(k);
                }
            }
            return found;
        }

        private int partOf(int k) {
            int part = 1 << k;
            for (int round = 1; round < pockets; round++) {
                for (int j = 0; j < pockets; j++) {
                    if (has(part, j)) {
                        part |= seams[j];
                    }
                }
            }
            return part;
        }

        boolean opens(int from, int to, int s) {
            return has(seams[from], to) && has(lets[to], s);
        }

        int price(int from, int to, int s) {
            return has(treaty[from][to], s) ? 0 : tax[to];
        }

        /** The worth of the chosen things, or -1 where they may not all lie in that pocket. */
        int worthOf(int chosen, int k) {
            int sum = 0;
            int load = 0;
            for (int t = 0; t < things; t++) {
                if (has(chosen, t)) {
                    if (!has(lets[k], sort[t])) {
                        return -1;
                    }
                    sum += worth[t];
                    load += bulk[t];
                }
            }
            return load <= size[k] ? sum : -1;
        }

        // -- holes, for a thing that is alone

        int behindNight(int k, int ofBulk) {
            int to = hole[k];
            return to != NONE && ofBulk <= holeFor[k] && ofBulk <= size[to] ? to : k;
        }

        int behindNights(int k, int ofBulk, int n) {
            int at = k;
            for (int i = 0; i < n; i++) {
                at = behindNight(at, ofBulk);
            }
            return at;
        }

        boolean dropsAsFarAs(int from, int to, int stitched) {
            int at = from;
            for (int i = 0; i < pockets && at != to; i++) {
                at = at == stitched ? at : behindNight(at, 1);
            }
            return at == to;
        }

        int firstStitch(int from, int to) {
            for (int k = 0; k < pockets; k++) {
                if (!dropsAsFarAs(from, to, k)) {
                    return k;
                }
            }
            return NONE;
        }
    }

    /** The text, and its reading token by token. */
    private static final class Text {
        static final int NUMBER = 256, END = 257, WRONG = 258;
        static final int SIZE = 0, FORBIDS = 1, DIGIT = 2, SORT = 3, BULK = 4, OUTER = 5, POCKET = 6, OTHER = 7;
        static final int[] LEAST = {1, 0, 0, 0, 1};
        static final int[] MOST = {20, 63, 9, 5, 5};
        static final int[] NO_ITEM = {};
        static final int[] POCKET_ITEM = {SIZE, FORBIDS, DIGIT, OUTER};
        static final int[] PAIR_ITEM = {POCKET, OTHER};
        static final int[] HOLE_ITEM = {POCKET, OTHER, BULK};
        static final int[] TREATY_ITEM = {POCKET, OTHER, SORT};
        static final int[] THING_ITEM = {SORT, BULK, DIGIT, POCKET};

        final int[] letters = new int[LETTERS];
        final int[] said = new int[4];
        int length;
        int place;
        int token;
        int tokenPlace;
        int value;

        /** How many items, or -10 less the fault. */
        int readInto(Realm realm) {
            realm.forgetAll();
            place = 0;
            int items = 0;
            readToken();
            for (int i = 0; i < LETTERS && token != END; i++) {
                if (!readItem(realm)) {
                    return -10 - tokenPlace;
                }
                items++;
                readToken();
            }
            return items;
        }

        /** From the item's letter to its end; if it is refused, the token is the one at fault. */
        private boolean readItem(Realm realm) {
            int letter = token;
            int[] form = formOf(letter);
            if (form.length == 0 || !realm.hasRoomFor(letter)) {
                return false;
            }
            for (int i = 0; i < form.length && i < said.length; i++) {
                readToken();
                if (token != NUMBER || !mayBe(form[i], realm.pockets)) {
                    return false;
                }
                said[i] = value;
            }
            readToken();
            if (token != ';') {
                return false;
            }
            realm.tell(letter, said);
            return true;
        }

        private static int[] formOf(int letter) {
            switch (letter) {
                case 'k': return POCKET_ITEM;
                case 'a': return PAIR_ITEM;
                case 'n': return PAIR_ITEM;
                case 's': return PAIR_ITEM;
                case 'h': return HOLE_ITEM;
                case 'y': return TREATY_ITEM;
                case 't': return THING_ITEM;
                default: return NO_ITEM;
            }
        }

        private boolean mayBe(int role, int pockets) {
            switch (role) {
                case OUTER: return value < pockets || value == NO_OUTER;
                case POCKET: return value < pockets;
                case OTHER: return value < pockets && value != said[0];
                default: return within(value, LEAST[role], MOST[role]);
            }
        }

        private void readToken() {
            while (place < length && letters[place] == ' ') {
                place++;
            }
            tokenPlace = place;
            if (place >= length) {
                token = END;
            } else if (isDigit(letters[place])) {
                readNumber();
            } else {
                token = letters[place];
                place++;
            }
        }

        private void readNumber() {
            value = 0;
            while (place < length && isDigit(letters[place])) {
                // Beyond 99 it is wrong anyway: kept from growing out of an int.
                value = Math.min(100, value * 10 + letters[place] - '0');
                place++;
            }
            int digits = place - tokenPlace;
            boolean zeroAhead = digits > 1 && letters[tokenPlace] == '0';
            token = value > 99 || zeroAhead ? WRONG : NUMBER;
        }

        private static boolean isDigit(int letter) {
            return within(letter, '0', '9');
        }
    }

    /** Looks for the first way to put all things with the fewest moved. */
    private static final class Stowing {
        final int[] plan = new int[THINGS];
        final int[] load = new int[POCKETS];

        /** The plan holds the pockets then; NONE, if there is no way. */
        int fewestMoved(Realm realm, Now present) {
            if (!eachHasAPlace(realm)) {
                return NONE;
            }
            for (int moved = 0; moved <= realm.things; moved++) {
                Arrays.fill(load, 0);
                if (putFrom(this, realm, present, 0, moved)) {
                    return moved;
                }
            }
            return NONE;
        }

        /** Spares a long search where one thing alone can lie nowhere. */
        private static boolean eachHasAPlace(Realm realm) {
            for (int t = 0; t < realm.things; t++) {
                int places = 0;
                for (int k = 0; k < realm.pockets; k++) {
                    if (has(realm.lets[k], realm.sort[t]) && realm.bulk[t] <= realm.size[k]) {
                        places++;
                    }
                }
                if (places == 0) {
                    return false;
                }
            }
            return true;
        }

        /** Puts thing t and those behind it, of which so many may still be moved: the first way that it can. */
        private static boolean putFrom(Stowing s, Realm realm, Now present, int t, int mayMove) {
            if (t >= realm.things) {
                return true;
            }
            int bulk = realm.bulk[t];
            for (int k = 0; k < realm.pockets; k++) {
                int left = k == present.where[t] ? mayMove : mayMove - 1;
                if (left >= 0 && has(realm.lets[k], realm.sort[t]) && s.load[k] + bulk <= realm.size[k]) {
                    s.plan[t] = k;
                    s.load[k] += bulk;
                    if (putFrom(s, realm, present, t + 1, left)) {
                        return true;
                    }
                    s.load[k] -= bulk;
                }
            }
            return false;
        }
    }
}
