/** The accounts of stiles, the fields on both their sides and the walkers who go over them. */
public final class StileAccounts {
    public static final int BAD = -1, NO = -2, FULL = -3, NONE = -4;

    private static final int MOST_LETTERS = 200;
    private static final int MOST_FIELDS = 8;
    private static final int MOST_STILES = 9;
    private static final int MOST_WALKERS = 4;
    private static final int MOST_NUMBERS = 3;
    private static final int MOST_WORN = 999;
    private static final int MOST_UNDONE = 8;
    private static final int MOST_KEPT = 2;
    private static final int MOST_SEEN = 6;
    private static final int MOST_DRUNK_TREADS = 8;
    private static final int MOST_YEAR_TREADS = 60;
    private static final int MOST_YEAR = 9999;

    private static final int ELM = 1, STONE = 2, GATE = 3;
    private static final int TALL = 1, SANDER = 2, CARRIED = 3;
    private static final int LAST_KIND = 3;

    private static final int SAND = 5;
    private static final int FAR = 20;
    private static final int ACCOUNT_ZERO = 1000;

    private static final String FIRST_TEXT =
        "f6;s0,0,1;s1,1,2;s0,2,3;s2,3,0;s1,1,4;s3,4,5;s0,5,2;w0,0,3;w1,2,4;w2,4,2;w3,5,5;l30;";

    private final Text text;
    private final Plan plan;
    private final State now;
    private final State dream;
    private final States past;
    private final States kept;
    private final Sightings sightings;
    private final Distances distances;
    private final Leveller leveller;
    private final Measurer measurer;
    private final Drunkard drunkard;

    public StileAccounts() {
        text = new Text();
        plan = new Plan();
        now = new State(plan);
        dream = new State(plan);
        past = new States(MOST_UNDONE, plan);
        kept = new States(MOST_KEPT, plan);
        sightings = new Sightings();
        distances = new Distances();
        leveller = new Leveller();
        measurer = new Measurer();
        drunkard = new Drunkard();
        layFirstText();
    }

    // ---- fields

    public int write(int letter) {
        if (letter < 32 || letter > 126) {
            return BAD;
        }
        return text.append((char) letter) ? text.length : FULL;
    }

    public int wipe() {
        int length = text.length;
        text.length = 0;
        return length;
    }

    public int fault() {
        return text.firstFault();
    }

    public int lay() {
        if (text.firstFault() != NONE || text.told.walkers == 0) {
            return NO;
        }
        layTold();
        return plan.fields;
    }

    public int stile(int s, int what) {
        if (!plan.hasStile(s)) {
            return BAD;
        }
        switch (what) {
            case 0: return plan.stileKind[s];
            case 1: return plan.from[s];
            case 2: return plan.to[s];
            case 3: return now.worn[s];
            case 4: return now.isBroken(s) ? 1 : 0;
            default: return BAD;
        }
    }

    public int walker(int w, int what) {
        if (!plan.hasWalker(w)) {
            return BAD;
        }
        switch (what) {
            case 0: return plan.walkerKind[w];
            case 1: return now.place[w];
            case 2: return plan.weight[w];
            case 3: return now.credit[w];
            case 4: return now.isLevel(w) ? 1 : 0;
            case 5: return now.latest[w];
            default: return BAD;
        }
    }

    public int account(int w, int s) {
        if (!plan.hasWalker(w) || !plan.hasStile(s)) {
            return BAD;
        }
        return now.accountOf(w, s) + ACCOUNT_ZERO;
    }

    // ---- treads

    public int tread(int w, int s) {
        if (!plan.hasWalker(w) || !plan.hasStile(s)) {
            return BAD;
        }
        if (!now.isOpenAt(s, now.place[w])) {
            return NO;
        }
        past.push(now);
        now.goOver(w, s);
        return now.place[w];
    }

    public int replace(int s) {
        if (!plan.hasStile(s)) {
            return BAD;
        }
        int before = now.worn[s];
        past.push(now);
        now.renew(s);
        return before;
    }

    public int sand(int s) {
        if (!plan.hasStile(s)) {
            return BAD;
        }
        past.push(now);
        now.wearBy(s, SAND);
        return now.worn[s];
    }

    public int undo() {
        return past.popInto(now) ? past.size : NO;
    }

    // ---- ways

    public int way(int w, int f, int what) {
        if (!plan.hasWalker(w) || !plan.hasField(f) || what < 0 || what > 1) {
            return BAD;
        }
        distances.take(now);
        int place = now.place[w];
        if (what == 1) {
            return firstStile(place, f);
        }
        int treads = distances.between(place, f);
        return treads == FAR ? NONE : treads;
    }

    public int even(int w) {
        if (!plan.hasWalker(w)) {
            return BAD;
        }
        return leveller.fewestTreads(now, w);
    }

    public int measure(int what) {
        if (what < 0 || what > 1) {
            return BAD;
        }
        int fewest = measurer.fewestStiles(now);
        return what == 0 ? fewest : Integer.bitCount(fewest);
    }

    public int fresh(int what) {
        if (what < 0 || what > 1) {
            return BAD;
        }
        distances.take(now);
        int pair = bestNewPair();
        if (pair == NONE || what == 0) {
            return pair;
        }
        return distances.sum() - distances.sumWith(pair / 10, pair % 10);
    }

    public int lasts(int s, int w) {
        if (!plan.hasStile(s) || !plan.hasWalker(w)) {
            return BAD;
        }
        if (now.isBroken(s)) {
            return 0;
        }
        int wear = plan.wearOf(w, s);
        return wear <= 0 ? NONE : (plan.limit - now.worn[s] + wear - 1) / wear;
    }

    public int richest() {
        int best = 0;
        for (int w = 1; w < plan.walkers; w++) {
            if (now.credit[w] > now.credit[best]) {
                best = w;
            }
        }
        return best;
    }

    // ---- what was seen

    public int see(int s, int v) {
        if (!plan.hasStile(s) || v < 0 || v > MOST_WORN) {
            return BAD;
        }
        return sightings.add(s, v) ? sightings.size : FULL;
    }

    public int forget() {
        int size = sightings.size;
        sightings.size = 0;
        return size;
    }

    public int whose(int s) {
        if (!plan.hasStile(s)) {
            return BAD;
        }
        int walkers = 0;
        for (int w = 0; w < plan.walkers; w++) {
            if (sightings.canBeOf(plan, w, s)) {
                walkers |= 1 << w;
            }
        }
        return walkers;
    }

    public int often(int w, int s, int v) {
        if (!plan.hasWalker(w) || !plan.hasStile(s) || v < 0 || v > MOST_WORN) {
            return BAD;
        }
        return plan.treadsToWear(w, s, v);
    }

    // ---- drunkards, years

    public int drunk(int w, int f, int n, int x, int part) {
        if (!plan.hasWalker(w) || !plan.hasField(f) || part < 0 || part > 1) {
            return BAD;
        }
        if (n < 0 || n > MOST_DRUNK_TREADS || x < 0 || x > 10) {
            return BAD;
        }
        drunkard.stagger(now, now.place[w], n, x);
        drunkard.reduceChanceOf(f, n);
        return part == 0 ? drunkard.above : drunkard.below;
    }

    public int year(int z, int n, int what) {
        if (z < 0 || z > MOST_YEAR || n < 1 || n > MOST_YEAR_TREADS || what < 0 || what > 1) {
            return BAD;
        }
        dream.copyFrom(now);
        for (int k = 0; k < n; k++) {
            dreamTread(drawOf(z, k));
        }
        return what == 0 ? dream.creditOfAll() : dream.brokenStiles();
    }

    public int keep() {
        if (kept.isFull()) {
            return FULL;
        }
        kept.push(now);
        return kept.size;
    }

    public int back() {
        if (!kept.popInto(now)) {
            return NO;
        }
        past.size = 0;
        return kept.size;
    }

    public int count(int what) {
        switch (what) {
            case 0: return plan.fields;
            case 1: return plan.stiles;
            case 2: return plan.walkers;
            case 3: return now.treads;
            case 4: return now.brokenStiles();
            case 5: return now.wornOfAll();
            case 6: return now.creditOfAll();
            case 7: return sightings.size;
            case 8: return past.size;
            case 9: return kept.size;
            case 10: return text.length;
            default: return BAD;
        }
    }

    // ---- parts of the calls above

    private void layFirstText() {
        for (int i = 0; i < FIRST_TEXT.length(); i++) {
            text.append(FIRST_TEXT.charAt(i));
        }
        text.firstFault();
        layTold();
        text.length = 0;
    }

    private void layTold() {
        plan.copyFrom(text.told);
        now.begin();
        past.size = 0;
        kept.size = 0;
        sightings.size = 0;
    }

    private int firstStile(int place, int f) {
        int treads = distances.between(place, f);
        if (treads == FAR) {
            return NONE;
        }
        for (int s = 0; s < plan.stiles; s++) {
            if (now.isOpenAt(s, place) && distances.between(plan.across(s, place), f) == treads - 1) {
                return s;
            }
        }
        return NONE;
    }

    private int bestNewPair() {
        int best = NONE;
        int least = 0;
        for (int a = 0; a < plan.fields; a++) {
            for (int b = a + 1; b < plan.fields; b++) {
                if (plan.hasStileBetween(a, b)) {
                    continue;
                }
                int sum = distances.sumWith(a, b);
                if (best == NONE || sum < least) {
                    best = 10 * a + b;
                    least = sum;
                }
            }
        }
        return best;
    }

    private int drawOf(int z, int k) {
        long x = 7919L * z + 6151L * k + 1L;
        return (int) (x * x % 65521L);
    }

    private void dreamTread(int draw) {
        if (plan.walkers < 1) {
            return;
        }
        int w = draw % plan.walkers;
        int place = dream.place[w];
        int open = dream.openStilesAt(place);
        if (open > 0) {
            dream.goOver(w, dream.openStileAt(place, draw / 4 % open));
            return;
        }
        int lowest = plan.lowestStileAt(place);
        if (lowest != NONE) {
            dream.renew(lowest);
        }
    }

    /** What a text tells: fields, the stiles between them, walkers, and when a stile breaks. */
    private static final class Plan {
        int fields;
        int limit;
        int stiles;
        int walkers;
        final int[] stileKind = new int[MOST_STILES];
        final int[] from = new int[MOST_STILES];
        final int[] to = new int[MOST_STILES];
        final int[] walkerKind = new int[MOST_WALKERS];
        final int[] start = new int[MOST_WALKERS];
        final int[] weight = new int[MOST_WALKERS];

        void clear() {
            fields = 5;
            limit = 40;
            stiles = 0;
            walkers = 0;
        }

        void copyFrom(Plan other) {
            fields = other.fields;
            limit = other.limit;
            stiles = other.stiles;
            walkers = other.walkers;
            System.arraycopy(other.stileKind, 0, stileKind, 0, MOST_STILES);
            System.arraycopy(other.from, 0, from, 0, MOST_STILES);
            System.arraycopy(other.to, 0, to, 0, MOST_STILES);
            System.arraycopy(other.walkerKind, 0, walkerKind, 0, MOST_WALKERS);
            System.arraycopy(other.start, 0, start, 0, MOST_WALKERS);
            System.arraycopy(other.weight, 0, weight, 0, MOST_WALKERS);
        }

        boolean addStile(int kind, int a, int b) {
            if (stiles >= MOST_STILES || kind > LAST_KIND || !hasField(a) || !hasField(b) || a == b) {
                return false;
            }
            stileKind[stiles] = kind;
            from[stiles] = a;
            to[stiles] = b;
            stiles++;
            return true;
        }

        boolean addWalker(int kind, int field, int heavy) {
            if (walkers >= MOST_WALKERS || kind > LAST_KIND || !hasField(field) || heavy < 1 || heavy > 9) {
                return false;
            }
            walkerKind[walkers] = kind;
            start[walkers] = field;
            weight[walkers] = heavy;
            walkers++;
            return true;
        }

        boolean hasField(int f) {
            return f >= 0 && f < fields;
        }

        boolean hasStile(int s) {
            return s >= 0 && s < stiles;
        }

        boolean hasWalker(int w) {
            return w >= 0 && w < walkers;
        }

        boolean isAt(int s, int f) {
            return from[s] == f || to[s] == f;
        }

        int across(int s, int f) {
            return from[s] == f ? to[s] : from[s];
        }

        boolean hasStileBetween(int a, int b) {
            for (int s = 0; s < stiles; s++) {
                if (isAt(s, a) && isAt(s, b)) {
                    return true;
                }
            }
            return false;
        }

        int lowestStileAt(int f) {
            for (int s = 0; s < stiles; s++) {
                if (isAt(s, f)) {
                    return s;
                }
            }
            return NONE;
        }

        int wearOf(int w, int s) {
            int kind = stileKind[s];
            if (kind == STONE || kind == GATE) {
                return 0;
            }
            int wear = kind == ELM ? 2 * weight[w] : weight[w];
            return walkerKind[w] == SANDER ? 2 * wear : wear;
        }

        int gainOf(int w, int s) {
            if (stileKind[s] == GATE || walkerKind[w] == CARRIED) {
                return 0;
            }
            return walkerKind[w] == TALL ? 2 : 1;
        }

        int treadsToWear(int w, int s, int v) {
            if (v == 0) {
                return 0;
            }
            int wear = wearOf(w, s);
            if (wear <= 0 || v % wear != 0) {
                return NONE;
            }
            return v / wear;
        }
    }

    /** The text, and what it tells as far as it has no fault. */
    private static final class Text {
        int length;
        final Plan told = new Plan();
        private final char[] letters = new char[MOST_LETTERS];
        private final int[] numbers = new int[MOST_NUMBERS];
        private int numberCount;
        private boolean fieldsAreFixed;

        boolean append(char letter) {
            if (length >= MOST_LETTERS) {
                return false;
            }
            letters[length] = letter;
            length++;
            return true;
        }

        int firstFault() {
            told.clear();
            fieldsAreFixed = false;
            int start = 0;
            while (start < length) {
                int end = readNumbers(start);
                if (end <= start || !takeItem(letters[start])) {
                    return start;
                }
                start = end;
            }
            return NONE;
        }

        /** The place behind the item's end, or its start if its numbers are not well told. */
        private int readNumbers(int start) {
            numberCount = 0;
            int number = 0;
            int figures = 0;
            for (int i = start + 1; i < length; i++) {
                char letter = letters[i];
                if (letter >= '0' && letter <= '9' && figures < 2) {
                    number = 10 * number + letter - '0';
                    figures++;
                    continue;
                }
                if (figures == 0 || numberCount >= MOST_NUMBERS || letter != ',' && letter != ';') {
                    return start;
                }
                numbers[numberCount] = number;
                numberCount++;
                if (letter == ';') {
                    return i + 1;
                }
                number = 0;
                figures = 0;
            }
            return start;
        }

        private boolean takeItem(char letter) {
            if (letter == 'f') {
                return takeFields();
            }
            fieldsAreFixed = true;
            switch (letter) {
                case 's': return numberCount == 3 && told.addStile(numbers[0], numbers[1], numbers[2]);
                case 'w': return numberCount == 3 && told.addWalker(numbers[0], numbers[1], numbers[2]);
                case 'l': return takeLimit();
                default: return false;
            }
        }

        private boolean takeFields() {
            if (fieldsAreFixed || numberCount != 1 || numbers[0] < 1 || numbers[0] > MOST_FIELDS) {
                return false;
            }
            told.fields = numbers[0];
            return true;
        }

        private boolean takeLimit() {
            if (numberCount != 1 || numbers[0] < 10) {
                return false;
            }
            told.limit = numbers[0];
            return true;
        }
    }

    /** How things stand on a plan: all that is undone, kept and dreamt of. */
    private static final class State {
        int treads;
        final int[] worn = new int[MOST_STILES];
        final int[] place = new int[MOST_WALKERS];
        final int[] credit = new int[MOST_WALKERS];
        final int[] latest = new int[MOST_WALKERS];
        private final int[] accounts = new int[MOST_WALKERS * MOST_STILES];
        final Plan plan;

        State(Plan plan) {
            this.plan = plan;
        }

        void begin() {
            treads = 0;
            for (int s = 0; s < MOST_STILES; s++) {
                renew(s);
            }
            for (int w = 0; w < MOST_WALKERS; w++) {
                place[w] = plan.start[w];
                credit[w] = 0;
                latest[w] = NONE;
            }
        }

        void copyFrom(State other) {
            treads = other.treads;
            System.arraycopy(other.worn, 0, worn, 0, MOST_STILES);
            System.arraycopy(other.place, 0, place, 0, MOST_WALKERS);
            System.arraycopy(other.credit, 0, credit, 0, MOST_WALKERS);
            System.arraycopy(other.latest, 0, latest, 0, MOST_WALKERS);
            System.arraycopy(other.accounts, 0, accounts, 0, MOST_WALKERS * MOST_STILES);
        }

        void goOver(int w, int s) {
            accounts[w * MOST_STILES + s] += plan.from[s] == place[w] ? 1 : -1;
            place[w] = plan.across(s, place[w]);
            latest[w] = s;
            credit[w] += plan.gainOf(w, s);
            wearBy(s, plan.wearOf(w, s));
            treads++;
        }

        void wearBy(int s, int more) {
            worn[s] = Math.min(worn[s] + more, MOST_WORN);
        }

        void renew(int s) {
            worn[s] = 0;
            for (int w = 0; w < MOST_WALKERS; w++) {
                accounts[w * MOST_STILES + s] = 0;
            }
        }

        int accountOf(int w, int s) {
            return accounts[w * MOST_STILES + s];
        }

        /** The stiles of which the walker has an account other than 0, as bits. */
        int unevenStiles(int w) {
            int uneven = 0;
            for (int s = 0; s < plan.stiles; s++) {
                if (accountOf(w, s) != 0) {
                    uneven |= 1 << s;
                }
            }
            return uneven;
        }

        boolean isLevel(int w) {
            return unevenStiles(w) == 0;
        }

        boolean isBroken(int s) {
            return worn[s] >= plan.limit;
        }

        boolean isOpenAt(int s, int f) {
            return plan.isAt(s, f) && !isBroken(s);
        }

        int openStilesAt(int f) {
            int open = 0;
            for (int s = 0; s < plan.stiles; s++) {
                if (isOpenAt(s, f)) {
                    open++;
                }
            }
            return open;
        }

        /** The open stile at the field with so many lower ones there; the highest if they are too few. */
        int openStileAt(int f, int number) {
            int found = 0;
            int lower = 0;
            for (int s = 0; s < plan.stiles && lower <= number; s++) {
                if (isOpenAt(s, f)) {
                    found = s;
                    lower++;
                }
            }
            return found;
        }

        int brokenStiles() {
            int broken = 0;
            for (int s = 0; s < plan.stiles; s++) {
                if (isBroken(s)) {
                    broken++;
                }
            }
            return broken;
        }

        int wornOfAll() {
            int sum = 0;
            for (int s = 0; s < plan.stiles; s++) {
                sum += worn[s];
            }
            return sum;
        }

        int creditOfAll() {
            int sum = 0;
            for (int w = 0; w < plan.walkers; w++) {
                sum += credit[w];
            }
            return sum;
        }
    }

    /** The latest states put by, the last one first out; if one too many comes, the oldest is lost. */
    private static final class States {
        int size;
        private final State[] rows;

        States(int most, Plan plan) {
            int length = Math.max(most, 1);
            rows = new State[length];
            for (int i = 0; i < length; i++) {
                rows[i] = new State(plan);
            }
        }

        boolean isFull() {
            return size >= rows.length;
        }

        void push(State state) {
            if (isFull()) {
                loseOldest();
            }
            rows[size].copyFrom(state);
            size++;
        }

        boolean popInto(State state) {
            if (size < 1) {
                return false;
            }
            size--;
            state.copyFrom(rows[size]);
            return true;
        }

        private void loseOldest() {
            // the row of the oldest is used again, as nothing is made anew after the constructor
            State oldest = rows[0];
            for (int i = 1; i < rows.length; i++) {
                rows[i - 1] = rows[i];
            }
            rows[rows.length - 1] = oldest;
            size = rows.length - 1;
        }
    }

    /** What was seen: by how much one walker alone wore a stile. */
    private static final class Sightings {
        int size;
        private final int[] stiles = new int[MOST_SEEN];
        private final int[] wears = new int[MOST_SEEN];

        boolean add(int s, int v) {
            if (size >= MOST_SEEN) {
                return false;
            }
            stiles[size] = s;
            wears[size] = v;
            size++;
            return true;
        }

        boolean canBeOf(Plan plan, int w, int s) {
            for (int i = 0; i < size; i++) {
                if (stiles[i] == s && plan.treadsToWear(w, s, wears[i]) == NONE) {
                    return false;
                }
            }
            return true;
        }
    }

    /** The fewest treads between all fields; FAR, which no sum of true ones comes near, if there are none. */
    private static final class Distances {
        private int fields;
        private final int[] table = new int[MOST_FIELDS * MOST_FIELDS];

        void take(State state) {
            fields = state.plan.fields;
            for (int a = 0; a < fields; a++) {
                for (int b = 0; b < fields; b++) {
                    table[a * MOST_FIELDS + b] = a == b ? 0 : FAR;
                }
            }
            for (int s = 0; s < state.plan.stiles; s++) {
                if (!state.isBroken(s)) {
                    join(state.plan.from[s], state.plan.to[s]);
                }
            }
            for (int over = 0; over < fields; over++) {
                shortenBy(over);
            }
        }

        int between(int a, int b) {
            return table[a * MOST_FIELDS + b];
        }

        int sum() {
            int sum = 0;
            for (int a = 0; a < fields; a++) {
                for (int b = a + 1; b < fields; b++) {
                    sum += between(a, b);
                }
            }
            return sum;
        }

        /** The sum if there were a stile between c and d too. */
        int sumWith(int c, int d) {
            int sum = 0;
            for (int a = 0; a < fields; a++) {
                for (int b = a + 1; b < fields; b++) {
                    int overIt = Math.min(between(a, c) + between(d, b), between(a, d) + between(c, b)) + 1;
                    sum += Math.min(between(a, b), overIt);
                }
            }
            return sum;
        }

        private void join(int a, int b) {
            table[a * MOST_FIELDS + b] = 1;
            table[b * MOST_FIELDS + a] = 1;
        }

        private void shortenBy(int over) {
            for (int a = 0; a < fields; a++) {
                for (int b = 0; b < fields; b++) {
                    int overIt = between(a, over) + between(over, b);
                    table[a * MOST_FIELDS + b] = Math.min(between(a, b), overIt);
                }
            }
        }
    }

    /**
     * The fewest treads that make a walker level. Over each stile he must go back as often as his account of it
     * tells; one walk can do so if at most one field is left once more than it is come to, which then is his own.
     * To come to all these stiles he may need others, each of them over and back.
     */
    private static final class Leveller {
        private final int[] leaves = new int[MOST_FIELDS];

        int fewestTreads(State state, int w) {
            int uneven = state.unevenStiles(w);
            if (uneven == 0) {
                return 0;
            }
            takeLeaves(state, w);
            if (!isOneWalkFrom(state.place[w], state.plan.fields)) {
                return NONE;
            }
            int others = fewestOthers(state.plan, uneven, state.place[w]);
            return others == NONE ? NONE : treadsOwed(state, w) + 2 * others;
        }

        private int treadsOwed(State state, int w) {
            int owed = 0;
            for (int s = 0; s < state.plan.stiles; s++) {
                owed += Math.abs(state.accountOf(w, s));
            }
            return owed;
        }

        private void takeLeaves(State state, int w) {
            for (int f = 0; f < MOST_FIELDS; f++) {
                leaves[f] = 0;
            }
            for (int s = 0; s < state.plan.stiles; s++) {
                int account = state.accountOf(w, s);
                leaves[state.plan.to[s]] += account;
                leaves[state.plan.from[s]] -= account;
            }
        }

        private boolean isOneWalkFrom(int place, int fields) {
            int ends = 0;
            for (int f = 0; f < fields; f++) {
                if (f == place) {
                    continue;
                }
                if (leaves[f] > 0) {
                    return false;
                }
                ends -= leaves[f];
            }
            return ends <= 1;
        }

        private int fewestOthers(Plan plan, int uneven, int place) {
            int best = NONE;
            int all = (1 << plan.stiles) - 1;
            for (int set = 0; set <= all; set++) {
                int others = Integer.bitCount(set & ~uneven);
                if ((set & uneven) == uneven && (best == NONE || others < best) && comesToAll(plan, set, place)) {
                    best = others;
                }
            }
            return best;
        }

        private boolean comesToAll(Plan plan, int set, int place) {
            int reached = 1 << place;
            int rest = set;
            // each round but the last comes to one stile more at least
            for (int round = 0; round < MOST_STILES && rest != 0; round++) {
                for (int s = 0; s < plan.stiles; s++) {
                    int ends = 1 << plan.from[s] | 1 << plan.to[s];
                    if ((rest & 1 << s) != 0 && (reached & ends) != 0) {
                        reached |= ends;
                        rest &= ~(1 << s);
                    }
                }
            }
            return rest == 0;
        }
    }

    /** The fewest stiles, as bits, by whose accounts all can be told who are not level. */
    private static final class Measurer {
        private final int[] uneven = new int[MOST_WALKERS];

        int fewestStiles(State state) {
            int walkers = state.plan.walkers;
            for (int w = 0; w < walkers; w++) {
                uneven[w] = state.unevenStiles(w);
            }
            int all = (1 << state.plan.stiles) - 1;
            int best = all;
            for (int set = 0; set <= all; set++) {
                // sets come in rising order, so only one of fewer stiles takes the place of the best
                if (Integer.bitCount(set) < Integer.bitCount(best) && tellsAll(set, walkers)) {
                    best = set;
                }
            }
            return best;
        }

        private boolean tellsAll(int set, int walkers) {
            for (int w = 0; w < walkers; w++) {
                if (uneven[w] != 0 && (uneven[w] & set) == 0) {
                    return false;
                }
            }
            return true;
        }
    }

    /** The chance of a drunkard to be in a field. */
    private static final class Drunkard {
        int above;
        int below;
        private final int[] chances = new int[MOST_FIELDS];
        private final int[] before = new int[MOST_FIELDS];

        /** Leaves in chances how many of 10 to the n-th times he is in each field. */
        void stagger(State state, int place, int n, int x) {
            for (int f = 0; f < MOST_FIELDS; f++) {
                chances[f] = f == place ? 1 : 0;
            }
            for (int i = 0; i < n; i++) {
                System.arraycopy(chances, 0, before, 0, MOST_FIELDS);
                for (int f = 0; f < MOST_FIELDS; f++) {
                    chances[f] = 0;
                }
                for (int f = 0; f < state.plan.fields; f++) {
                    goOnFrom(state, f, x);
                }
            }
        }

        private void goOnFrom(State state, int f, int x) {
            int open = state.openStilesAt(f);
            if (open == 0) {
                chances[f] += 10 * before[f];
                return;
            }
            int lowest = state.openStileAt(f, 0);
            int highest = state.openStileAt(f, open - 1);
            chances[state.plan.across(lowest, f)] += x * before[f];
            chances[state.plan.across(highest, f)] += (10 - x) * before[f];
        }

        void reduceChanceOf(int f, int n) {
            above = chances[f];
            below = 1;
            for (int i = 0; i < n; i++) {
                below *= 10;
            }
            // below has no prime factors but 2 and 5, each n times
            for (int i = 0; i < n; i++) {
                reduceBy2();
                reduceBy5();
            }
        }

        private void reduceBy2() {
            if (above % 2 == 0 && below % 2 == 0) {
                above /= 2;
                below /= 2;
            }
        }

        private void reduceBy5() {
            if (above % 5 == 0 && below % 5 == 0) {
                above /= 5;
                below /= 5;
            }
        }
    }
}
