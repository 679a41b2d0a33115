/** A registry of nicknames: given by others, sticking by use, forgotten, outgrown or handed on. */
public final class NameBenches {
    public static final int NONE = -1;

    private static final int MOST_PEOPLE = 12;
    private static final int MOST_NAMES = 40;
    private static final int MOST_ALIVE_OF_ONE = 3;
    private static final int FAMILIES = 6;
    private static final int BENCHES = 4;
    private static final int OLDEST_TO_COME = 99;
    private static final int LAST_YEAR = 999;
    private static final int MOST_YEARS_AT_ONCE = 9;
    private static final int MOST_LETTERS = 4;
    private static final int ALPHABET = 26;
    private static final int SETTINGS = 3;
    private static final int FIRST_SETTING = 3;
    private static final int MOST_OF_A_SETTING = 9;
    private static final int MOST_TEXT = 120;
    private static final int MOST_SIGN = 255;
    private static final int MOST_REMEMBERED = 14;
    private static final int SLOTS = 2;
    private static final int MOST_COMMANDS = 3;
    private static final int MOST_TURNS = 60;

    private static final int NEW = 0;
    private static final int STICKING = 1;
    private static final int FORGOTTEN = 2;
    private static final int OUTGROWN = 3;
    private static final int HANDED_ON = 4;
    private static final int LAST_ALIVE = STICKING;

    private static final int UNTIL_STICKING = 0;
    private static final int UNTIL_FORGOTTEN = 1;
    private static final int PER_QUARTER_LETTER = 2;

    private final Text text = new Text();
    private final Registry now = new Registry();
    private final Registry trial = new Registry();
    private final Past past = new Past();
    private final Slots slots = new Slots();
    private final NameSearch search = new NameSearch();

    public NameBenches() {
    }

    // ---- text

    public int append(int c) throws IllegalArgumentException, IllegalStateException {
        if (c < 0 || c > MOST_SIGN) {
            throw new IllegalArgumentException("no such character");
        }
        if (text.length >= MOST_TEXT) {
            throw new IllegalStateException("the text is full");
        }
        text.put((char) c);
        return text.length;
    }

    public int clearText() {
        int previous = text.length;
        text.length = 0;
        return previous;
    }

    public int errorPosition() {
        return text.firstError();
    }

    public int load() throws IllegalStateException {
        if (text.firstError() != NONE) {
            throw new IllegalStateException("the text is not a registry");
        }
        now.empty();
        past.forgetAll();
        slots.forgetAll();
        int leftOut = 0;
        text.readHead();
        for (int i = 0; i < MOST_TEXT && text.readCommand(); i++) {
            if (!now.obeys(text)) {
                leftOut++;
            }
        }
        return leftOut;
    }

    // ---- what there is

    public int about(int what) throws IllegalArgumentException {
        switch (what) {
            case 0: return now.people.count;
            case 1: return now.names.count;
            case 2: return now.names.inState(NEW);
            case 3: return now.names.inState(STICKING);
            case 4: return now.names.inState(FORGOTTEN);
            case 5: return now.names.inState(OUTGROWN);
            case 6: return now.names.inState(HANDED_ON);
            case 7: return now.year;
            case 8: return now.names.usesTogether();
            case 9: return now.mixes;
            case 10: return now.callsOfNobody;
            case 11: return now.refusals;
            case 12: return now.settings[UNTIL_STICKING];
            case 13: return now.settings[UNTIL_FORGOTTEN];
            case 14: return now.settings[PER_QUARTER_LETTER];
            default: throw new IllegalArgumentException("what is 0 to 14");
        }
    }

    public int personOf(int p, int what) throws IndexOutOfBoundsException, IllegalArgumentException {
        requirePerson(p);
        switch (what) {
            case 0: return now.people.age[p];
            case 1: return now.people.family[p];
            case 2: return now.people.bench[p];
            case 3: return now.names.aliveOf(p);
            case 4: return now.people.brothersOf(p);
            case 5: return now.names.givenBy(p);
            case 6: return now.names.stuckGivenBy(p);
            case 7: return now.people.mistaken[p];
            case 8: return now.people.lending[p];
            default: throw new IllegalArgumentException("what is 0 to 8");
        }
    }

    public int nameOf(int n, int what) throws IndexOutOfBoundsException, IllegalArgumentException {
        requireName(n);
        switch (what) {
            case 0: return now.names.many[n];
            case 1: return now.names.code[n];
            case 2: return now.names.giver[n];
            case 3: return now.names.holder[n];
            case 4: return now.names.uses[n];
            case 5: return now.names.latest[n];
            case 6: return now.names.state[n];
            case 7: return now.names.stuck[n] ? 1 : 0;
            default: throw new IllegalArgumentException("what is 0 to 7");
        }
    }

    public int letter(int n, int place) throws IndexOutOfBoundsException {
        requireName(n);
        if (place < 0) {
            throw new IndexOutOfBoundsException("a place is not negative");
        }
        if (place >= now.names.many[n]) {
            return NONE;
        }
        return Letters.at(now.names.many[n], now.names.code[n], place);
    }

    public int roll(int rank) throws IllegalArgumentException {
        if (rank < 0) {
            throw new IllegalArgumentException("a rank is not negative");
        }
        return now.names.ranked(rank);
    }

    public int meant(int b, int many, int code, int way) throws IndexOutOfBoundsException, IllegalArgumentException {
        requireBench(b);
        requireCode(many, code);
        switch (way) {
            case 0: return now.meantByPeople(b, many, code);
            case 1: return now.meantByNames(b, many, code);
            default: throw new IllegalArgumentException("a way is 0 or 1");
        }
    }

    // ---- actions

    public int person(int age, int family, int bench)
            throws IndexOutOfBoundsException, IllegalArgumentException, IllegalStateException {
        if (!isFamily(family)) {
            throw new IndexOutOfBoundsException("no such family");
        }
        requireBench(bench);
        if (!isAgeToCome(age)) {
            throw new IllegalArgumentException("an age is 0 to 99");
        }
        if (now.people.isFull()) {
            throw new IllegalStateException("there are 12 people");
        }
        past.remember(now);
        now.people.add(age, family, bench);
        return now.people.count - 1;
    }

    public int sit(int p, int bench) throws IndexOutOfBoundsException, IllegalStateException {
        requirePerson(p);
        requireBench(bench);
        if (now.isKeptFrom(p, bench)) {
            throw new IllegalStateException("somebody there has such a name");
        }
        past.remember(now);
        int previous = now.people.bench[p];
        now.people.bench[p] = bench;
        return previous;
    }

    public int give(int giver, int p, int many, int code) throws IndexOutOfBoundsException, IllegalArgumentException {
        requirePerson(giver);
        requirePerson(p);
        requireCode(many, code);
        past.remember(now);
        int reason = now.reasonAgainst(giver, p, many, code);
        if (reason == 0) {
            now.names.add(giver, p, many, code, now.year);
        } else {
            now.refusals++;
        }
        return reason;
    }

    public int call(int b, int many, int code) throws IndexOutOfBoundsException, IllegalArgumentException {
        requireBench(b);
        requireCode(many, code);
        past.remember(now);
        int p = now.callFor(b, many, code);
        if (p == NONE) {
            now.callsOfNobody++;
        }
        return p;
    }

    public int years(int n) throws IllegalArgumentException, IllegalStateException {
        if (!isYearsAtOnce(n)) {
            throw new IllegalArgumentException("1 to 9 years go by");
        }
        if (now.year + n > LAST_YEAR) {
            throw new IllegalStateException("there is no year above 999");
        }
        past.remember(now);
        return now.passYears(n);
    }

    public int set(int what, int v) throws IllegalArgumentException {
        if (!isSettingWith(what, v)) {
            throw new IllegalArgumentException("no such setting or value");
        }
        past.remember(now);
        int previous = now.settings[what];
        now.settings[what] = v;
        return previous;
    }

    public int undo() throws IllegalStateException {
        if (past.count == 0) {
            throw new IllegalStateException("no state is remembered");
        }
        past.takeBack(now);
        return past.count;
    }

    // ---- what would be

    public int why(int giver, int p, int many, int code) throws IndexOutOfBoundsException, IllegalArgumentException {
        requirePerson(giver);
        requirePerson(p);
        requireCode(many, code);
        return now.reasonAgainst(giver, p, many, code);
    }

    public int endsIn(int n) throws IndexOutOfBoundsException {
        requireName(n);
        return now.yearsLeft(n);
    }

    public int bestName(int giver, int p, int many) throws IndexOutOfBoundsException, IllegalArgumentException {
        requirePerson(giver);
        requirePerson(p);
        if (many != 1 && many != 2) {
            throw new IllegalArgumentException("1 or 2 letters");
        }
        return search.bestCode(now, giver, p, many);
    }

    public int bestGiver() {
        int best = NONE;
        for (int p = 0; p < now.people.count; p++) {
            if (now.names.givenBy(p) > 0 && (best == NONE || now.names.sticksBetter(p, best))) {
                best = p;
            }
        }
        return best;
    }

    public int mixed() {
        int most = NONE;
        for (int p = 0; p < now.people.count; p++) {
            if (now.people.mistaken[p] > (most == NONE ? 0 : now.people.mistaken[most])) {
                most = p;
            }
        }
        return most;
    }

    // ---- scripts, simulations

    public int runScript(int n, long script) throws IllegalArgumentException {
        if (n < 1 || n > MOST_COMMANDS) {
            throw new IllegalArgumentException("1 to 3 commands");
        }
        if (script < 0 || script >= Script.beyond(n)) {
            throw new IllegalArgumentException("at most 6 digits for a command");
        }
        trial.copyFrom(now);
        for (int i = 0; i < n; i++) {
            if (!Script.succeeds(trial, Script.group(script, n, i))) {
                return i;
            }
        }
        return NONE;
    }

    public int simulate(long seed, int m) throws IllegalArgumentException {
        if (m < 1 || m > MOST_TURNS) {
            throw new IllegalArgumentException("1 to 60 turns");
        }
        trial.copyFrom(now);
        long x = seed;
        for (int i = 0; i < m; i++) {
            x = x * 6364136223846793005L + 1442695040888963407L;
            Simulation.takeTurn(trial, (int) (x >>> 33));
        }
        return 10000 * trial.names.alive() + 100 * trial.people.count + (trial.mixes - now.mixes);
    }

    // ---- save slots

    public int save(int slot) throws IndexOutOfBoundsException {
        requireSlot(slot);
        slots.kept[slot].copyFrom(now);
        slots.used[slot] = true;
        return now.names.count;
    }

    public int restore(int slot) throws IndexOutOfBoundsException, IllegalStateException {
        requireSlot(slot);
        if (!slots.used[slot]) {
            throw new IllegalStateException("nothing is saved in this slot");
        }
        now.copyFrom(slots.kept[slot]);
        past.forgetAll();
        return now.names.count;
    }

    // ---- what the calls ask for

    private void requirePerson(int p) {
        if (!now.people.has(p)) {
            throw new IndexOutOfBoundsException("no such person");
        }
    }

    private void requireName(int n) {
        if (!now.names.has(n)) {
            throw new IndexOutOfBoundsException("no such name");
        }
    }

    private static void requireBench(int bench) {
        if (!isBench(bench)) {
            throw new IndexOutOfBoundsException("no such bench");
        }
    }

    private static void requireCode(int many, int code) {
        if (!Letters.isCode(many, code)) {
            throw new IllegalArgumentException("no such letters");
        }
    }

    private static void requireSlot(int slot) {
        if (slot < 0 || slot >= SLOTS) {
            throw new IndexOutOfBoundsException("no such save slot");
        }
    }

    private static boolean isBench(int bench) {
        return bench >= 0 && bench < BENCHES;
    }

    private static boolean isFamily(int family) {
        return family >= 0 && family < FAMILIES;
    }

    private static boolean isAgeToCome(int age) {
        return age >= 0 && age <= OLDEST_TO_COME;
    }

    private static boolean isYearsAtOnce(int n) {
        return n >= 1 && n <= MOST_YEARS_AT_ONCE;
    }

    private static boolean isSettingWith(int what, int v) {
        if (what < 0 || what >= SETTINGS) {
            return false;
        }
        int least = what == PER_QUARTER_LETTER ? 0 : 1;
        return v >= least && v <= MOST_OF_A_SETTING;
    }

    /** Letters as a number of them and a code, the first letter the highest digit to the base 26. */
    private static final class Letters {
        static int codes(int many) {
            int codes = 1;
            for (int i = 0; i < many && i < MOST_LETTERS; i++) {
                codes *= ALPHABET;
            }
            return codes;
        }

        static boolean isCode(int many, int code) {
            return many >= 1 && many <= MOST_LETTERS && code >= 0 && code < codes(many);
        }

        static int at(int many, int code, int place) {
            int rest = code;
            for (int i = many - 1; i > place; i--) {
                rest /= ALPHABET;
            }
            return rest % ALPHABET;
        }

        /** A missing letter is the lowest digit, so that a name is ahead of one that begins with it. */
        static int dictionaryKey(int many, int code) {
            int key = 0;
            for (int place = 0; place < MOST_LETTERS; place++) {
                key = key * (ALPHABET + 1) + (place < many ? at(many, code, place) + 1 : 0);
            }
            return key;
        }

        static boolean isRepeated(int many, int code, int place) {
            for (int i = 0; i < place; i++) {
                if (at(many, code, i) == at(many, code, place)) {
                    return true;
                }
            }
            return false;
        }
    }

    /** The people, each by number; mistaken counts calls by a brother's name, lending the brothers so called. */
    private static final class People {
        int count = 0;
        final int[] age = new int[MOST_PEOPLE];
        final int[] family = new int[MOST_PEOPLE];
        final int[] bench = new int[MOST_PEOPLE];
        final int[] mistaken = new int[MOST_PEOPLE];
        final int[] lending = new int[MOST_PEOPLE];

        void copyFrom(People other) {
            count = other.count;
            System.arraycopy(other.age, 0, age, 0, MOST_PEOPLE);
            System.arraycopy(other.family, 0, family, 0, MOST_PEOPLE);
            System.arraycopy(other.bench, 0, bench, 0, MOST_PEOPLE);
            System.arraycopy(other.mistaken, 0, mistaken, 0, MOST_PEOPLE);
            System.arraycopy(other.lending, 0, lending, 0, MOST_PEOPLE);
        }

        boolean has(int p) {
            return p >= 0 && p < count;
        }

        boolean isFull() {
            return count >= MOST_PEOPLE;
        }

        void add(int itsAge, int itsFamily, int itsBench) {
            if (isFull()) {
                return;
            }
            age[count] = itsAge;
            family[count] = itsFamily;
            bench[count] = itsBench;
            mistaken[count] = 0;
            lending[count] = 0;
            count++;
        }

        void growOlder() {
            for (int p = 0; p < count; p++) {
                age[p]++;
            }
        }

        boolean areBrothers(int a, int b) {
            return a != b && family[a] == family[b];
        }

        boolean isYoungerBeside(int q, int p) {
            return family[q] == family[p] && age[q] < age[p] && bench[q] == bench[p];
        }

        int brothersOf(int p) {
            int brothers = 0;
            for (int q = 0; q < count; q++) {
                if (areBrothers(p, q)) {
                    brothers++;
                }
            }
            return brothers;
        }

        int firstBrotherOn(int b, int p) {
            for (int q = 0; q < count; q++) {
                if (bench[q] == b && areBrothers(p, q)) {
                    return q;
                }
            }
            return NONE;
        }
    }

    /** The names ever, each by number; latest is the year of the latest use, or when it was given. */
    private static final class Names {
        int count = 0;
        final int[] many = new int[MOST_NAMES];
        final int[] code = new int[MOST_NAMES];
        final int[] giver = new int[MOST_NAMES];
        final int[] holder = new int[MOST_NAMES];
        final int[] uses = new int[MOST_NAMES];
        final int[] latest = new int[MOST_NAMES];
        final int[] state = new int[MOST_NAMES];
        final boolean[] stuck = new boolean[MOST_NAMES];

        void copyFrom(Names other) {
            count = other.count;
            System.arraycopy(other.many, 0, many, 0, MOST_NAMES);
            System.arraycopy(other.code, 0, code, 0, MOST_NAMES);
            System.arraycopy(other.giver, 0, giver, 0, MOST_NAMES);
            System.arraycopy(other.holder, 0, holder, 0, MOST_NAMES);
            System.arraycopy(other.uses, 0, uses, 0, MOST_NAMES);
            System.arraycopy(other.latest, 0, latest, 0, MOST_NAMES);
            System.arraycopy(other.state, 0, state, 0, MOST_NAMES);
            System.arraycopy(other.stuck, 0, stuck, 0, MOST_NAMES);
        }

        boolean has(int n) {
            return n >= 0 && n < count;
        }

        boolean isFull() {
            return count >= MOST_NAMES;
        }

        void add(int itsGiver, int itsHolder, int itsMany, int itsCode, int itsYear) {
            if (isFull()) {
                return;
            }
            many[count] = itsMany;
            code[count] = itsCode;
            giver[count] = itsGiver;
            holder[count] = itsHolder;
            uses[count] = 0;
            latest[count] = itsYear;
            state[count] = NEW;
            stuck[count] = false;
            count++;
        }

        void use(int n, int itsYear, int usesToStick) {
            uses[n]++;
            latest[n] = itsYear;
            if (state[n] == NEW && uses[n] >= usesToStick) {
                state[n] = STICKING;
                stuck[n] = true;
            }
        }

        boolean isAlive(int n) {
            return state[n] <= LAST_ALIVE;
        }

        boolean isAliveAs(int n, int itsMany, int itsCode) {
            return state[n] <= LAST_ALIVE && many[n] == itsMany && code[n] == itsCode;
        }

        int aliveNameOf(int p, int itsMany, int itsCode) {
            for (int n = 0; n < count; n++) {
                if (holder[n] == p && isAliveAs(n, itsMany, itsCode)) {
                    return n;
                }
            }
            return NONE;
        }

        int alive() {
            return inState(NEW) + inState(STICKING);
        }

        int inState(int itsState) {
            int found = 0;
            for (int n = 0; n < count; n++) {
                if (state[n] == itsState) {
                    found++;
                }
            }
            return found;
        }

        int aliveOf(int p) {
            int found = 0;
            for (int n = 0; n < count; n++) {
                if (holder[n] == p && state[n] <= LAST_ALIVE) {
                    found++;
                }
            }
            return found;
        }

        int usesTogether() {
            int together = 0;
            for (int n = 0; n < count; n++) {
                together += uses[n];
            }
            return together;
        }

        int givenBy(int p) {
            int given = 0;
            for (int n = 0; n < count; n++) {
                if (giver[n] == p) {
                    given++;
                }
            }
            return given;
        }

        int stuckGivenBy(int p) {
            int given = 0;
            for (int n = 0; n < count; n++) {
                if (giver[n] == p && stuck[n]) {
                    given++;
                }
            }
            return given;
        }

        /** Both gave names; the shares are compared as fractions, crosswise, as a division would round them. */
        boolean sticksBetter(int p, int other) {
            int share = stuckGivenBy(p) * givenBy(other);
            int otherShare = stuckGivenBy(other) * givenBy(p);
            return share > otherShare || (share == otherShare && givenBy(p) > givenBy(other));
        }

        int ranked(int rank) {
            for (int n = 0; n < count; n++) {
                if (isAlive(n) && aliveAheadOf(n) == rank) {
                    return n;
                }
            }
            return NONE;
        }

        int aliveAheadOf(int n) {
            int key = Letters.dictionaryKey(many[n], code[n]);
            int ahead = 0;
            for (int other = 0; other < count; other++) {
                if (isAlive(other)) {
                    int otherKey = Letters.dictionaryKey(many[other], code[other]);
                    if (otherKey < key || (otherKey == key && other < n)) {
                        ahead++;
                    }
                }
            }
            return ahead;
        }
    }

    /** One whole state, and the rules by which it changes. */
    private static final class Registry {
        final People people = new People();
        final Names names = new Names();
        final int[] settings = new int[SETTINGS];
        int year = 0;
        int mixes = 0;
        int callsOfNobody = 0;
        int refusals = 0;

        Registry() {
            for (int i = 0; i < SETTINGS; i++) {
                settings[i] = FIRST_SETTING;
            }
        }

        void empty() {
            people.count = 0;
            names.count = 0;
            for (int i = 0; i < SETTINGS; i++) {
                settings[i] = FIRST_SETTING;
            }
            year = 0;
            mixes = 0;
            callsOfNobody = 0;
            refusals = 0;
        }

        void copyFrom(Registry other) {
            people.copyFrom(other.people);
            names.copyFrom(other.names);
            System.arraycopy(other.settings, 0, settings, 0, SETTINGS);
            year = other.year;
            mixes = other.mixes;
            callsOfNobody = other.callsOfNobody;
            refusals = other.refusals;
        }

        // ---- giving and sitting

        int reasonAgainst(int giver, int p, int many, int code) {
            int reason = reasonAgainstAnyName(giver, p);
            if (reason != 0) {
                return reason;
            }
            if (isTaken(people.bench[p], many, code, NONE)) {
                return 4;
            }
            return names.isFull() ? 5 : 0;
        }

        int reasonAgainstAnyName(int giver, int p) {
            if (giver == p) {
                return 1;
            }
            if (!people.areBrothers(giver, p) && people.bench[giver] != people.bench[p]) {
                return 2;
            }
            return names.aliveOf(p) >= MOST_ALIVE_OF_ONE ? 3 : 0;
        }

        boolean isTaken(int b, int many, int code, int exceptBy) {
            for (int n = 0; n < names.count; n++) {
                int holder = names.holder[n];
                if (holder != exceptBy && people.bench[holder] == b && names.isAliveAs(n, many, code)) {
                    return true;
                }
            }
            return false;
        }

        boolean isKeptFrom(int p, int b) {
            for (int n = 0; n < names.count; n++) {
                if (names.holder[n] == p && names.isAlive(n) && isTaken(b, names.many[n], names.code[n], p)) {
                    return true;
                }
            }
            return false;
        }

        // ---- calls

        int meantByPeople(int b, int many, int code) {
            for (int p = 0; p < people.count; p++) {
                if (people.bench[p] == b && names.aliveNameOf(p, many, code) != NONE) {
                    return p;
                }
            }
            for (int p = 0; p < people.count; p++) {
                if (people.bench[p] == b && firstBrotherNamed(p, many, code) != NONE) {
                    return p;
                }
            }
            return NONE;
        }

        int firstBrotherNamed(int p, int many, int code) {
            for (int q = 0; q < people.count; q++) {
                if (people.areBrothers(p, q) && names.aliveNameOf(q, many, code) != NONE) {
                    return q;
                }
            }
            return NONE;
        }

        int meantByNames(int b, int many, int code) {
            int lowest = NONE;
            for (int n = 0; n < names.count; n++) {
                if (names.isAliveAs(n, many, code)) {
                    int holder = names.holder[n];
                    if (people.bench[holder] == b) {
                        return holder;
                    }
                    int brother = people.firstBrotherOn(b, holder);
                    if (brother != NONE && (lowest == NONE || brother < lowest)) {
                        lowest = brother;
                    }
                }
            }
            return lowest;
        }

        /** Returns whom it means; NONE, and nothing different, for nobody (only call() counts that) or a wrong call. */
        int callFor(int b, int many, int code) {
            int p = isBench(b) && Letters.isCode(many, code) ? meantByPeople(b, many, code) : NONE;
            if (p == NONE) {
                return NONE;
            }
            int n = names.aliveNameOf(p, many, code);
            if (n != NONE) {
                names.use(n, year, settings[UNTIL_STICKING]);
            } else {
                mixUp(p, firstBrotherNamed(p, many, code));
            }
            return p;
        }

        void mixUp(int called, int named) {
            if (people.has(called) && people.has(named)) {
                people.mistaken[called]++;
                people.lending[named]++;
                mixes++;
            }
        }

        // ---- years

        /** Returns how many names end; NONE, and nothing different, where years() would throw. */
        int passYears(int n) {
            if (!isYearsAtOnce(n) || year + n > LAST_YEAR) {
                return NONE;
            }
            int ended = 0;
            for (int i = 0; i < n; i++) {
                year++;
                people.growOlder();
                ended += endNames();
            }
            return ended;
        }

        int endNames() {
            int ended = 0;
            // names that are handed on now come behind these: they are not looked at in this year
            int before = names.count;
            for (int n = 0; n < before; n++) {
                if (!names.isAlive(n)) {
                    continue;
                }
                if (year - names.latest[n] >= settings[UNTIL_FORGOTTEN]) {
                    names.state[n] = FORGOTTEN;
                    ended++;
                } else if (people.age[names.holder[n]] > oldestFor(n)) {
                    outgrow(n);
                    ended++;
                }
            }
            return ended;
        }

        int oldestFor(int n) {
            return 4 * settings[PER_QUARTER_LETTER] * names.many[n];
        }

        void outgrow(int n) {
            int holder = names.holder[n];
            int heir = names.state[n] == STICKING && !names.isFull() ? heirOf(holder) : NONE;
            if (heir == NONE) {
                names.state[n] = OUTGROWN;
            } else {
                names.state[n] = HANDED_ON;
                names.add(holder, heir, names.many[n], names.code[n], year);
            }
        }

        int heirOf(int p) {
            int heir = NONE;
            for (int q = 0; q < people.count; q++) {
                boolean isOldestYet = heir == NONE || people.age[q] > people.age[heir];
                if (isOldestYet && people.isYoungerBeside(q, p) && names.aliveOf(q) < MOST_ALIVE_OF_ONE) {
                    heir = q;
                }
            }
            return heir;
        }

        int yearsLeft(int n) {
            if (!names.isAlive(n)) {
                return 0;
            }
            int untilForgotten = settings[UNTIL_FORGOTTEN] - (year - names.latest[n]);
            int untilOutgrown = oldestFor(n) - people.age[names.holder[n]] + 1;
            // a name that is due already, by a changed setting, ends with the next year, not at once
            return Math.max(1, Math.min(untilForgotten, untilOutgrown));
        }

        // ---- tries: false, and nothing different, where the method would throw or refuse

        boolean triesPerson(int age, int family, int bench) {
            if (!isFamily(family) || !isBench(bench) || !isAgeToCome(age) || people.isFull()) {
                return false;
            }
            people.add(age, family, bench);
            return true;
        }

        boolean triesSitting(int p, int bench) {
            if (!people.has(p) || !isBench(bench) || isKeptFrom(p, bench)) {
                return false;
            }
            people.bench[p] = bench;
            return true;
        }

        boolean triesGiving(int giver, int p, int many, int code) {
            if (!people.has(giver) || !people.has(p) || !Letters.isCode(many, code)) {
                return false;
            }
            if (reasonAgainst(giver, p, many, code) != 0) {
                return false;
            }
            names.add(giver, p, many, code, year);
            return true;
        }

        boolean triesSetting(int what, int v) {
            if (!isSettingWith(what, v)) {
                return false;
            }
            settings[what] = v;
            return true;
        }

        boolean obeys(Text text) {
            int[] told = text.told;
            switch (text.kind) {
                case 'p': return triesPerson(told[0], told[1], told[2]);
                case 'g': return triesGiving(told[0], told[1], told[2], told[3]);
                case 'c': return callFor(told[0], told[1], told[2]) != NONE;
                case 'y': return passYears(told[0]) != NONE;
                case 'b': return triesSitting(told[0], told[1]);
                case 's': return triesSetting(told[0], told[1]);
                default: return false;
            }
        }
    }

    /** The text buffer and its reading: at is the first character that is not read yet. */
    private static final class Text {
        private static final int MOST_TOLD = 4;

        final char[] signs = new char[MOST_TEXT];
        int length = 0;
        int at = 0;
        int kind = NONE;
        /** What the command tells, in the order of its method's arguments. */
        final int[] told = new int[MOST_TOLD];
        int toldCount = 0;

        void put(char sign) {
            if (length < MOST_TEXT) {
                signs[length] = sign;
                length++;
            }
        }

        int firstError() {
            if (!readHead()) {
                return at;
            }
            for (int i = 0; i < MOST_TEXT && at < length; i++) {
                if (!readCommand()) {
                    return at;
                }
            }
            return NONE;
        }

        boolean readHead() {
            at = 0;
            return reads('R');
        }

        /** Leaves at on the first character that is not allowed, or behind the text, if it fails. */
        boolean readCommand() {
            kind = here();
            toldCount = 0;
            switch (kind) {
                case 'p': return reads('p') && readsPair(99) && readsDigit(0, 5) && readsDigit(0, 3);
                case 'g': return reads('g') && readsPair(11) && readsPair(11) && readsLetters();
                case 'c': return reads('c') && readsDigit(0, 3) && readsLetters();
                case 'y': return reads('y') && readsDigit(1, 9);
                case 'b': return reads('b') && readsPair(11) && readsDigit(0, 3);
                case 's': return reads('s') && readsDigit(0, 2) && readsDigit(0, 9);
                default: return false;
            }
        }

        /** Behind the text it is NONE, which no character is. */
        int here() {
            return at < length ? signs[at] : NONE;
        }

        boolean reads(int sign) {
            if (here() != sign) {
                return false;
            }
            at++;
            return true;
        }

        boolean readsDigit(int least, int most) {
            int digit = takeDigit(least, most);
            return digit != NONE && tells(digit);
        }

        boolean readsPair(int most) {
            int tens = takeDigit(0, most / 10);
            if (tens == NONE) {
                return false;
            }
            int ones = takeDigit(0, tens == most / 10 ? most % 10 : 9);
            return ones != NONE && tells(10 * tens + ones);
        }

        int takeDigit(int least, int most) {
            int digit = here() - '0';
            if (digit < least || digit > most) {
                return NONE;
            }
            at++;
            return digit;
        }

        boolean readsLetters() {
            int many = 0;
            int code = 0;
            for (int i = 0; i < MOST_LETTERS && here() >= 'A' && here() <= 'Z'; i++) {
                code = code * ALPHABET + (here() - 'A');
                many++;
                at++;
            }
            return many > 0 && tells(many) && tells(code) && reads('.');
        }

        boolean tells(int number) {
            if (toldCount >= MOST_TOLD) {
                return false;
            }
            told[toldCount] = number;
            toldCount++;
            return true;
        }
    }

    /** The states that are remembered for undo, the oldest at first, in a ring. */
    private static final class Past {
        final Registry[] ring = new Registry[MOST_REMEMBERED];
        int first = 0;
        int count = 0;

        Past() {
            for (int i = 0; i < MOST_REMEMBERED; i++) {
                ring[i] = new Registry();
            }
        }

        void forgetAll() {
            count = 0;
        }

        void remember(Registry registry) {
            ring[(first + count) % MOST_REMEMBERED].copyFrom(registry);
            if (count < MOST_REMEMBERED) {
                count++;
            } else {
                first = (first + 1) % MOST_REMEMBERED;
            }
        }

        void takeBack(Registry registry) {
            if (count > 0) {
                count--;
                registry.copyFrom(ring[(first + count) % MOST_REMEMBERED]);
            }
        }
    }

    private static final class Slots {
        final Registry[] kept = new Registry[SLOTS];
        final boolean[] used = new boolean[SLOTS];

        Slots() {
            for (int i = 0; i < SLOTS; i++) {
                kept[i] = new Registry();
            }
        }

        void forgetAll() {
            for (int i = 0; i < SLOTS; i++) {
                used[i] = false;
            }
        }
    }

    /** Finds the letters that are in the fewest names alive. */
    private static final class NameSearch {
        final int[] namesWith = new int[ALPHABET];

        int bestCode(Registry registry, int giver, int p, int many) {
            // of the reasons against a name, only its being taken depends on the letters
            if (registry.reasonAgainstAnyName(giver, p) != 0 || registry.names.isFull()) {
                return NONE;
            }
            int bench = registry.people.bench[p];
            countNames(registry.names);
            int best = NONE;
            int fewest = 0;
            for (int code = 0; code < Letters.codes(many); code++) {
                int found = namesWithLettersOf(many, code);
                if ((best == NONE || found < fewest) && !registry.isTaken(bench, many, code, NONE)) {
                    best = code;
                    fewest = found;
                }
            }
            return best;
        }

        void countNames(Names names) {
            for (int i = 0; i < ALPHABET; i++) {
                namesWith[i] = 0;
            }
            for (int n = 0; n < names.count; n++) {
                if (names.isAlive(n)) {
                    countLetters(names.many[n], names.code[n]);
                }
            }
        }

        void countLetters(int many, int code) {
            for (int place = 0; place < many; place++) {
                if (!Letters.isRepeated(many, code, place)) {
                    namesWith[Letters.at(many, code, place)]++;
                }
            }
        }

        int namesWithLettersOf(int many, int code) {
            int found = 0;
            for (int place = 0; place < many; place++) {
                found += namesWith[Letters.at(many, code, place)];
            }
            return found;
        }
    }

    /** The commands of a script: groups of six decimal digits. */
    private static final class Script {
        private static final long GROUP = 1000000L;

        /** The least number that has too many digits for n commands. */
        static long beyond(int n) {
            long beyond = 1;
            for (int i = 0; i < n && i < MOST_COMMANDS; i++) {
                beyond *= GROUP;
            }
            return beyond;
        }

        static int group(long script, int n, int index) {
            long rest = script;
            for (int i = n - 1; i > index; i--) {
                rest /= GROUP;
            }
            return (int) (rest % GROUP);
        }

        static boolean succeeds(Registry registry, int group) {
            int kind = group / 100000;
            int d2 = group / 10000 % 10;
            int d3 = group / 1000 % 10;
            int d5 = group / 10 % 10;
            int d6 = group % 10;
            switch (kind) {
                case 1: return d6 == 0 && registry.triesGiving(d2, d3, 1, group / 10 % 100);
                case 2: return group % 100 == 0 && registry.callFor(d2, 1, group / 100 % 100) != NONE;
                case 3: return group / 10 % 10000 == 0 && registry.passYears(d6) != NONE;
                case 4: return group / 10 % 1000 == 0 && registry.triesSitting(d2, d6);
                case 5: return group / 10 % 1000 == 0 && registry.triesSetting(d2, d6);
                case 6: return group / 10 % 1000 == 0 && hasNames(registry, d2, d6);
                case 7: return d6 == 0 && means(registry, d2, group / 100 % 100, d5);
                case 8: return group / 100 % 1000 == 0 && registry.names.inState(STICKING) >= group % 100;
                case 9: return group / 10 % 100 == 0 && isInState(registry, group / 1000 % 100, d6);
                default: return false;
            }
        }

        static boolean hasNames(Registry registry, int p, int least) {
            return registry.people.has(p) && registry.names.aliveOf(p) >= least;
        }

        static boolean means(Registry registry, int b, int code, int p) {
            return isBench(b) && Letters.isCode(1, code) && registry.people.has(p)
                && registry.meantByPeople(b, 1, code) == p;
        }

        static boolean isInState(Registry registry, int n, int state) {
            return registry.names.has(n) && registry.names.state[n] == state;
        }
    }

    private static final class Simulation {
        static void takeTurn(Registry registry, int r) {
            int q = r / 16;
            switch (r % 16) {
                case 0: case 1:
                    registry.triesPerson(q % 60, q / 64 % 6, q / 512 % 4);
                    break;
                case 2: case 3: case 4: case 5:
                    registry.triesGiving(q % 12, q / 16 % 12, 1, q / 256 % 8);
                    break;
                case 6: case 7: case 8: case 9: case 10: case 11:
                    registry.callFor(q % 4, 1, q / 4 % 8);
                    break;
                case 12:
                    registry.triesSitting(q % 12, q / 16 % 4);
                    break;
                case 13:
                    registry.triesSetting(q % 3, 1 + q / 4 % 4);
                    break;
                default:
                    registry.passYears(1 + q % 2);
            }
        }
    }
}
