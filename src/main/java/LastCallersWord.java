/**
 * Doors whose word is set by the latest caller, who tells it to those he likes most.
 * What each call promises stands in the project's document, DOC.md.
 */
public final class LastCallersWord {
    public static final int BAD = -1, NO = -2, FULL = -3, NONE = -4;

    private static final int MOST_LETTERS = 200, FIRST_SIGN = 32, LAST_SIGN = 126;
    private static final int FEWEST_PERSONS = 2, MOST_PERSONS = 8, USUAL_PERSONS = 4;
    private static final int MOST_DOORS = 5, MOST_WORDS = 6, MOST_PARTS = 60;
    private static final int MOST_LIMIT = 9, USUAL_LIMIT = 3, MOST_LIKING = 9;
    private static final int PLAIN = 0, GOSSIP = 1, SILENT = 2, TRUE = 3;
    private static final int TOLD_BY_PLAIN = 2, TOLD_BY_GOSSIP = 3, LIKED_BY_TRUE = 8;
    private static final int MOST_UNDONE = 8, MOST_KEPT = 2, MOST_SEEN = 8;
    private static final int MOST_DAYS_AHEAD = 20, MOST_DAYS_FROM_CALL = 5, MOST_DAYS_LIKELY = 3;
    private static final int LAST_STREET = 9999, MOST_TIMES = 60;

    /** No letter of a text can be this one: it stands for what is behind its end. */
    private static final char END = 0;

    private static final String FIRST_TEXT =
        "n5;p003951;p149062;p258310;p370481;p026737;d0,3;d1,2;d2,2;d3,0;w20;w5;w9;b2;";

    private final Letters letters = new Letters();
    private final Plan draft = new Plan();
    private final Reader reader = new Reader(letters, draft);
    private final Plan plan = new Plan();
    private final State state = new State();
    private final Talk talk = new Talk(plan, state);
    private final Sightings sightings = new Sightings();
    private final Shelf undoable = new Shelf(MOST_UNDONE);
    private final Shelf kept = new Shelf(MOST_KEPT);
    private final int[] streetKnowers = new int[MOST_DOORS];

    public LastCallersWord() {
        for (int place = 0; place < FIRST_TEXT.length(); place++) {
            letters.append(FIRST_TEXT.charAt(place));
        }
        reader.findFault();
        layDraft();
        letters.clear();
    }

    // ---- streets

    public int write(int letter) {
        if (letter < FIRST_SIGN || letter > LAST_SIGN) {
            return BAD;
        }
        if (letters.length >= MOST_LETTERS) {
            return FULL;
        }
        letters.append((char) letter);
        return letters.length;
    }

    public int wipe() {
        int length = letters.length;
        letters.clear();
        return length;
    }

    public int fault() {
        return reader.findFault();
    }

    public int lay() {
        if (reader.findFault() != NONE || !draft.isWhole()) {
            return NO;
        }
        layDraft();
        return plan.doors;
    }

    public int person(int i, int what) {
        if (!isPerson(i) || !isPart(what)) {
            return BAD;
        }
        return what == 0 ? plan.kinds[i] : Integer.bitCount(talk.listeners(i));
    }

    public int likes(int i, int j) {
        if (!isPerson(i) || !isPerson(j)) {
            return BAD;
        }
        return state.likings[pair(i, j)];
    }

    public int door(int d, int what) {
        if (!isDoor(d)) {
            return BAD;
        }
        switch (what) {
            case 0: return plan.hosts[d];
            case 1: return state.callers[d];
            case 2: return state.knowers[d];
            case 3: return barredAt(d);
            default: return BAD;
        }
    }

    // ---- days

    public int call(int i, int d) {
        if (!isPerson(i) || !isDoor(d)) {
            return BAD;
        }
        undoable.put(state);
        state.callers[d] = i;
        state.knowers[d] = talk.knowersByCall(i);
        return Integer.bitCount(state.knowers[d]);
    }

    public int tries(int i, int d) {
        if (!isPerson(i) || !isDoor(d)) {
            return BAD;
        }
        if (isBarred(i, d)) {
            return NO;
        }
        undoable.put(state);
        if (has(state.knowers[d], i)) {
            return 1;
        }
        state.wrongs[pair(d, i)]++;
        return 0;
    }

    public int day() {
        undoable.put(state);
        for (int d = 0; d < plan.doors; d++) {
            state.knowers[d] = talk.afterDay(state.knowers[d]);
        }
        state.forgiveAll();
        state.days++;
        return state.days;
    }

    public int alter(int i, int j, int v) {
        if (!isPerson(i) || !isPerson(j) || v < 0 || v > MOST_LIKING) {
            return BAD;
        }
        undoable.put(state);
        int before = state.likings[pair(i, j)];
        state.likings[pair(i, j)] = v;
        return before;
    }

    public int undo() {
        if (undoable.size == 0) {
            return NO;
        }
        undoable.takeLatestInto(state);
        return undoable.size;
    }

    // ---- who knows

    public int shutOut() {
        return shutOutBy(state.knowers);
    }

    public int knowsBy(int d, int n) {
        if (!isDoor(d) || n < 0 || n > MOST_DAYS_AHEAD) {
            return BAD;
        }
        return talk.afterDays(state.knowers[d], n);
    }

    public int when(int i, int d) {
        if (!isPerson(i) || !isDoor(d)) {
            return BAD;
        }
        int knowers = state.knowers[d];
        for (int n = 0; n <= MOST_DAYS_AHEAD; n++) {
            if (has(knowers, i)) {
                return n;
            }
            knowers = talk.afterDay(knowers);
        }
        return NONE;
    }

    public int lets(int d, int n) {
        if (!isDoor(d) || n < 0 || n > MOST_DAYS_FROM_CALL) {
            return BAD;
        }
        return callersWhoReach(plan.hosts[d], n);
    }

    public int keeps(int i, int d, int n) {
        if (!isPerson(i) || !isDoor(d) || n < 0 || n > MOST_DAYS_FROM_CALL) {
            return BAD;
        }
        return talk.everyone() & ~callersWhoReach(i, n);
    }

    public int allIn(int d) {
        // A host can always call himself, and a call at one door changes no other:
        // each door that shuts its host out takes just one call.
        if (d == -1) {
            return Integer.bitCount(shutOutBy(state.knowers));
        }
        if (!isDoor(d)) {
            return BAD;
        }
        if (!has(shutOutBy(state.knowers), d)) {
            return NONE;
        }
        return lowest(callersWhoReach(plan.hosts[d], 0));
    }

    public int friend(int i, int what) {
        if (!isPerson(i) || !isPart(what)) {
            return BAD;
        }
        int who = NONE;
        int most = -1;
        for (int j = 0; j < plan.persons; j++) {
            int liking = state.likings[pair(j, i)];
            if (j != i && liking > most) {
                who = j;
                most = liking;
            }
        }
        return what == 0 ? who : most;
    }

    // ---- what was seen

    public int seen(int i, int d, int could) {
        if (!isPerson(i) || !isDoor(d) || !isPart(could)) {
            return BAD;
        }
        if (sightings.size >= MOST_SEEN) {
            return FULL;
        }
        sightings.add(i, d, could);
        return sightings.size;
    }

    public int forget() {
        int size = sightings.size;
        sightings.clear();
        return size;
    }

    public int called(int d) {
        if (!isDoor(d)) {
            return BAD;
        }
        int looked = sightings.lookedAt(d);
        int cameIn = sightings.cameInAt(d);
        int bits = 0;
        for (int i = 0; i < plan.persons; i++) {
            if ((talk.knowersByCall(i) & looked) == cameIn) {
                bits |= 1 << i;
            }
        }
        return bits;
    }

    // ---- guessing

    public int guess(int k) {
        if (k < 0) {
            return BAD;
        }
        for (int word = 0; word < plan.words; word++) {
            if (plan.rankOf(word) == k) {
                return word;
            }
        }
        return NONE;
    }

    public int mean(int part) {
        if (!isPart(part)) {
            return BAD;
        }
        if (plan.words == 0) {
            return NONE;
        }
        int above = 0;
        for (int word = 0; word < plan.words; word++) {
            above += plan.parts[word] * (plan.rankOf(word) + 1);
        }
        return inLowestTerms(above, plan.allParts(), part);
    }

    public int inTime(int part) {
        if (!isPart(part)) {
            return BAD;
        }
        if (plan.words == 0) {
            return NONE;
        }
        int above = 0;
        for (int word = 0; word < plan.words; word++) {
            if (plan.rankOf(word) < plan.limit) {
                above += plan.parts[word];
            }
        }
        return inLowestTerms(above, plan.allParts(), part);
    }

    public int likely(int d, int n, int part) {
        if (!isDoor(d) || n < 0 || n > MOST_DAYS_LIKELY || !isPart(part)) {
            return BAD;
        }
        int ways = 1;
        for (int t = 0; t < n; t++) {
            ways *= plan.persons;
        }
        int shut = 0;
        for (int way = 0; way < ways; way++) {
            if (!has(knowersByVisitors(d, n, way), plan.hosts[d])) {
                shut++;
            }
        }
        return inLowestTerms(shut, ways, part);
    }

    public int street(int z, int n, int what) {
        if (z < 0 || z > LAST_STREET || n < 1 || n > MOST_TIMES || !isPart(what)) {
            return BAD;
        }
        System.arraycopy(state.knowers, 0, streetKnowers, 0, MOST_DOORS);
        int calm = 0;
        for (int time = 0; time < n; time++) {
            goOnInStreet(drawOf(z, time));
            if (shutOutBy(streetKnowers) == 0) {
                calm++;
            }
        }
        return what == 0 ? shutOutBy(streetKnowers) : calm;
    }

    // ---- kept

    public int keep() {
        if (kept.size >= MOST_KEPT) {
            return FULL;
        }
        kept.put(state);
        return kept.size;
    }

    public int back() {
        if (kept.size == 0) {
            return NO;
        }
        kept.takeLatestInto(state);
        undoable.clear();
        return kept.size;
    }

    public int count(int what) {
        switch (what) {
            case 0: return plan.persons;
            case 1: return plan.doors;
            case 2: return plan.words;
            case 3: return state.days;
            case 4: return plan.limit;
            case 5: return sightings.size;
            case 6: return undoable.size;
            case 7: return kept.size;
            case 8: return letters.length;
            default: return BAD;
        }
    }

    // ---- what the calls share

    private void layDraft() {
        plan.copyFrom(draft);
        state.begin(plan);
        for (int d = 0; d < plan.doors; d++) {
            state.knowers[d] = talk.knowersByCall(plan.callers[d]);
        }
        sightings.clear();
        undoable.clear();
        kept.clear();
    }

    private boolean isPerson(int i) {
        return i >= 0 && i < plan.persons;
    }

    private boolean isDoor(int d) {
        return d >= 0 && d < plan.doors;
    }

    private static boolean isPart(int part) {
        return part == 0 || part == 1;
    }

    private boolean isBarred(int i, int d) {
        return state.wrongs[pair(d, i)] >= plan.limit;
    }

    private int barredAt(int d) {
        int bits = 0;
        for (int i = 0; i < plan.persons; i++) {
            if (isBarred(i, d)) {
                bits |= 1 << i;
            }
        }
        return bits;
    }

    private int shutOutBy(int[] knowers) {
        int bits = 0;
        for (int d = 0; d < plan.doors && d < knowers.length; d++) {
            if (!has(knowers[d], plan.hosts[d])) {
                bits |= 1 << d;
            }
        }
        return bits;
    }

    /** By whose call now a person would know the word of that door behind n days. */
    private int callersWhoReach(int person, int n) {
        int bits = 0;
        for (int caller = 0; caller < plan.persons; caller++) {
            if (has(talk.afterDays(talk.knowersByCall(caller), n), person)) {
                bits |= 1 << caller;
            }
        }
        return bits;
    }

    /** The way tells who comes on each day: its figures, written by the number of persons. */
    private int knowersByVisitors(int d, int n, int way) {
        int knowers = state.knowers[d];
        int rest = way;
        for (int t = 0; t < n; t++) {
            int visitor = remainder(rest, plan.persons);
            rest = quotient(rest, plan.persons);
            if (has(knowers, visitor)) {
                knowers = talk.knowersByCall(visitor);
            }
            knowers = talk.afterDay(knowers);
        }
        return knowers;
    }

    private void goOnInStreet(int draw) {
        if (draw / 64 % 3 != 0) {
            int d = remainder(draw / 8, plan.doors);
            if (isDoor(d)) {
                streetKnowers[d] = talk.knowersByCall(remainder(draw, plan.persons));
            }
            return;
        }
        for (int d = 0; d < plan.doors; d++) {
            streetKnowers[d] = talk.afterDay(streetKnowers[d]);
        }
    }

    private static int drawOf(int z, int time) {
        long x = 7919L * z + 6151L * time + 1;
        return (int) (x * x % 65521 / 4);
    }

    private static int inLowestTerms(int above, int below, int part) {
        int common = commonDivisor(above, below);
        return quotient(part == 0 ? above : below, common);
    }

    private static int commonDivisor(int a, int b) {
        int larger = a;
        int smaller = b;
        // Each two steps halve the larger one at least: 64 are enough for any ints.
        for (int step = 0; step < 64 && smaller != 0; step++) {
            int rest = larger % smaller;
            larger = smaller;
            smaller = rest;
        }
        return larger;
    }

    private static int quotient(int number, int divisor) {
        return divisor > 0 ? number / divisor : 0;
    }

    private static int remainder(int number, int divisor) {
        return divisor > 0 ? number % divisor : 0;
    }

    private static boolean has(int bits, int place) {
        return (bits >> place & 1) == 1;
    }

    private static int lowest(int bits) {
        return bits == 0 ? NONE : Integer.numberOfTrailingZeros(bits);
    }

    /** Where a row of persons, or of doors, by persons holds what it has for these two. */
    private static int pair(int row, int person) {
        return row * MOST_PERSONS + person;
    }

    /** THE TEXT. */
    private static final class Letters {
        final char[] signs = new char[MOST_LETTERS];
        int length = 0;

        void append(char sign) {
            if (length < signs.length) {
                signs[length] = sign;
                length++;
            }
        }

        char signAt(int place) {
            return place >= 0 && place < length ? signs[place] : END;
        }

        void clear() {
            length = 0;
        }
    }

    /** What a text tells; none of it changes while it is laid. */
    private static final class Plan {
        final int[] kinds = new int[MOST_PERSONS];
        final int[] likings = new int[MOST_PERSONS * MOST_PERSONS];
        final int[] hosts = new int[MOST_DOORS];
        final int[] callers = new int[MOST_DOORS];
        final int[] parts = new int[MOST_WORDS];
        int persons = USUAL_PERSONS;
        int personsTold = 0;
        int doors = 0;
        int words = 0;
        int limit = USUAL_LIMIT;

        void clear() {
            persons = USUAL_PERSONS;
            personsTold = 0;
            doors = 0;
            words = 0;
            limit = USUAL_LIMIT;
        }

        boolean isWhole() {
            return personsTold == persons && doors > 0;
        }

        void copyFrom(Plan other) {
            System.arraycopy(other.kinds, 0, kinds, 0, kinds.length);
            System.arraycopy(other.likings, 0, likings, 0, likings.length);
            System.arraycopy(other.hosts, 0, hosts, 0, hosts.length);
            System.arraycopy(other.callers, 0, callers, 0, callers.length);
            System.arraycopy(other.parts, 0, parts, 0, parts.length);
            persons = other.persons;
            personsTold = other.personsTold;
            doors = other.doors;
            words = other.words;
            limit = other.limit;
        }

        /** How many words are to be tried ahead of this one. */
        int rankOf(int word) {
            int ahead = 0;
            for (int other = 0; other < words; other++) {
                boolean likelier = parts[other] > parts[word];
                boolean alikeButLower = parts[other] == parts[word] && other < word;
                if (likelier || alikeButLower) {
                    ahead++;
                }
            }
            return ahead;
        }

        int allParts() {
            int sum = 0;
            for (int word = 0; word < words; word++) {
                sum += parts[word];
            }
            return sum;
        }
    }

    /** Reads the text into a plan, up to its first fault. */
    private static final class Reader {
        final Letters letters;
        final Plan plan;
        int place = 0;
        boolean onlyCounts = true;

        Reader(Letters letters, Plan plan) {
            this.letters = letters;
            this.plan = plan;
        }

        int findFault() {
            plan.clear();
            place = 0;
            onlyCounts = true;
            // Each item takes a letter at least.
            for (int item = 0; item < MOST_LETTERS && place < letters.length; item++) {
                int first = place;
                place++;
                if (!readBody(letters.signAt(first)) || !take(';')) {
                    return first;
                }
            }
            return NONE;
        }

        boolean readBody(char letter) {
            if (letter != 'n') {
                onlyCounts = false;
            }
            switch (letter) {
                case 'n': return readPersons();
                case 'p': return readPerson();
                case 'd': return readDoor();
                case 'w': return readWord();
                case 'b': return readLimit();
                default: return false;
            }
        }

        boolean readPersons() {
            int many = number();
            if (!onlyCounts || many < FEWEST_PERSONS || many > MOST_PERSONS) {
                return false;
            }
            plan.persons = many;
            return true;
        }

        boolean readPerson() {
            int kind = figure();
            int i = plan.personsTold;
            if (i >= plan.persons || kind < PLAIN || kind > TRUE) {
                return false;
            }
            for (int j = 0; j < plan.persons; j++) {
                int liking = figure();
                if (liking < 0) {
                    return false;
                }
                plan.likings[pair(i, j)] = liking;
            }
            plan.kinds[i] = kind;
            plan.personsTold++;
            return true;
        }

        boolean readDoor() {
            int host = number();
            if (!take(',')) {
                return false;
            }
            int caller = number();
            if (plan.doors >= MOST_DOORS || !isOneOfAll(host) || !isOneOfAll(caller)) {
                return false;
            }
            plan.hosts[plan.doors] = host;
            plan.callers[plan.doors] = caller;
            plan.doors++;
            return true;
        }

        boolean readWord() {
            int parts = number();
            if (plan.words >= MOST_WORDS || parts < 1 || parts > MOST_PARTS) {
                return false;
            }
            plan.parts[plan.words] = parts;
            plan.words++;
            return true;
        }

        boolean readLimit() {
            int limit = number();
            if (limit < 1 || limit > MOST_LIMIT) {
                return false;
            }
            plan.limit = limit;
            return true;
        }

        boolean isOneOfAll(int i) {
            return i >= 0 && i < plan.persons;
        }

        boolean take(char sign) {
            if (letters.signAt(place) != sign) {
                return false;
            }
            place++;
            return true;
        }

        /** A number of one or two figures; less than 0 where there is none. */
        int number() {
            int first = figure();
            if (first < 0) {
                return first;
            }
            int second = figure();
            return second < 0 ? first : 10 * first + second;
        }

        int figure() {
            char sign = letters.signAt(place);
            if (sign < '0' || sign > '9') {
                return -1;
            }
            place++;
            return sign - '0';
        }
    }

    /** What calls, tries, days and alterings change: what can be undone and kept. */
    private static final class State {
        final int[] likings = new int[MOST_PERSONS * MOST_PERSONS];
        final int[] callers = new int[MOST_DOORS];
        final int[] knowers = new int[MOST_DOORS];
        final int[] wrongs = new int[MOST_DOORS * MOST_PERSONS];
        int days = 0;

        void begin(Plan plan) {
            System.arraycopy(plan.likings, 0, likings, 0, likings.length);
            System.arraycopy(plan.callers, 0, callers, 0, callers.length);
            forgiveAll();
            days = 0;
        }

        void forgiveAll() {
            for (int place = 0; place < wrongs.length; place++) {
                wrongs[place] = 0;
            }
        }

        void copyFrom(State other) {
            System.arraycopy(other.likings, 0, likings, 0, likings.length);
            System.arraycopy(other.callers, 0, callers, 0, callers.length);
            System.arraycopy(other.knowers, 0, knowers, 0, knowers.length);
            System.arraycopy(other.wrongs, 0, wrongs, 0, wrongs.length);
            days = other.days;
        }
    }

    /** Copies of states, the latest one behind. */
    private static final class Shelf {
        final State[] copies;
        int size = 0;

        Shelf(int most) {
            copies = new State[Math.max(1, most)];
            for (int place = 0; place < copies.length; place++) {
                copies[place] = new State();
            }
        }

        /** The oldest copy goes where there is no more room. */
        void put(State state) {
            if (size >= copies.length) {
                dropOldest();
            }
            copies[size].copyFrom(state);
            size++;
        }

        void dropOldest() {
            State oldest = copies[0];
            for (int place = 1; place < copies.length; place++) {
                copies[place - 1] = copies[place];
            }
            copies[copies.length - 1] = oldest;
            size = copies.length - 1;
        }

        void takeLatestInto(State state) {
            if (size > 0) {
                size--;
                state.copyFrom(copies[size]);
            }
        }

        void clear() {
            size = 0;
        }
    }

    /** Who tells a word to whom, as likings are now. */
    private static final class Talk {
        final Plan plan;
        final State state;

        Talk(Plan plan, State state) {
            this.plan = plan;
            this.state = state;
        }

        int everyone() {
            return (1 << plan.persons) - 1;
        }

        int knowersByCall(int caller) {
            return 1 << caller | listeners(caller);
        }

        /** Whom a caller tells at once. */
        int listeners(int caller) {
            if (caller < 0 || caller >= plan.persons) {
                return 0;
            }
            switch (plan.kinds[caller]) {
                case PLAIN: return dearestOnes(caller, TOLD_BY_PLAIN);
                case GOSSIP: return dearestOnes(caller, TOLD_BY_GOSSIP);
                case TRUE: return likedOnes(caller, LIKED_BY_TRUE);
                case SILENT:
                default: return 0;
            }
        }

        int dearestOnes(int i, int many) {
            int chosen = 0;
            for (int turn = 0; turn < many; turn++) {
                chosen |= dearestOf(i, everyone() & ~(1 << i) & ~chosen);
            }
            return chosen;
        }

        /** The bit of him whom i likes most of these, by more than 0; 0 where there is none. */
        int dearestOf(int i, int these) {
            int dearest = 0;
            int most = 0;
            for (int j = 0; j < plan.persons; j++) {
                int liking = state.likings[pair(i, j)];
                if (has(these, j) && liking > most) {
                    dearest = 1 << j;
                    most = liking;
                }
            }
            return dearest;
        }

        int likedOnes(int i, int least) {
            int bits = 0;
            for (int j = 0; j < plan.persons; j++) {
                if (j != i && state.likings[pair(i, j)] >= least) {
                    bits |= 1 << j;
                }
            }
            return bits;
        }

        /** All gossips tell at the same time: two of them may tell the same one. */
        int afterDay(int knowers) {
            int told = 0;
            for (int i = 0; i < plan.persons; i++) {
                if (has(knowers, i) && plan.kinds[i] == GOSSIP) {
                    told |= dearestOf(i, everyone() & ~knowers);
                }
            }
            return knowers | told;
        }

        int afterDays(int knowers, int n) {
            int later = knowers;
            for (int t = 0; t < n; t++) {
                later = afterDay(later);
            }
            return later;
        }
    }

    /** Who was seen at which door, and whether he could come in. */
    private static final class Sightings {
        final int[] persons = new int[MOST_SEEN];
        final int[] doors = new int[MOST_SEEN];
        final int[] coulds = new int[MOST_SEEN];
        int size = 0;

        void add(int i, int d, int could) {
            if (size < MOST_SEEN) {
                persons[size] = i;
                doors[size] = d;
                coulds[size] = could;
                size++;
            }
        }

        int lookedAt(int d) {
            int bits = 0;
            for (int place = 0; place < size; place++) {
                if (doors[place] == d) {
                    bits |= 1 << persons[place];
                }
            }
            return bits;
        }

        int cameInAt(int d) {
            int bits = 0;
            for (int place = 0; place < size; place++) {
                if (doors[place] == d && coulds[place] == 1) {
                    bits |= 1 << persons[place];
                }
            }
            return bits;
        }

        void clear() {
            size = 0;
        }
    }
}
