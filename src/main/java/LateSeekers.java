/** Hide and seek across the ages, as ../shared/DOC.md tells it; words in capitals are that document's terms. */
public final class LateSeekers {
    public static final int BAD = -1, FULL = -2, NONE = -3;

    private static final int NO_ROW = -9;
    private static final int NOTHING_THERE = -11;
    private static final int OUTSIDE = -12;
    private static final int OTHER_SORT = -13;
    private static final int BELOW_NOTHING = -14;
    private static final int PARTED_BY_NOTHING = -15;
    private static final int FAULTS_FROM = -100;

    private static final int OUT = 0, DARK = 1, LAMP = 2, PEEP = 3;
    private static final int LAWS = 4;
    private static final int[] LAW_AT_FIRST = {60, 2, 1, 20};
    private static final int[] LAW_MOST = {99, 9, 9, 99};

    private static final int CHILD = 0, WIDOWER = 1, KEEPER = 2, GRANDSON = 3, SCHOLAR = 4, LADY = 5;
    private static final int KINDS = 6;
    private static final int[] KIND_ABOVE = {-1, CHILD, CHILD, WIDOWER, KEEPER, CHILD};

    private static final int PLACES = 12;
    private static final int COVER_AT_FIRST = 3;
    private static final int MOST_COVER = 9;
    private static final int MOST_PEOPLE = 8;
    private static final int EVERYBODY = (1 << MOST_PEOPLE) - 1;
    private static final int MOST_AGE = 99;
    private static final int MOST_WIT = 9;
    private static final int MOST_FINDS = 99;

    private static final int MOST_YEARS = 60;
    private static final int NEVER = MOST_YEARS + 1;
    private static final int MOST_YEARS_ASKED = 20;
    private static final int MOST_NIGHTS = 30;
    private static final int MOST_ODDS = 8;
    private static final int MOST_HOPE = 99;

    private static final int TAPE_BYTES = 200;
    private static final int MOST_ROWS = 10;
    private static final int ROW_PARTS = 3;
    private static final int SHEETS = 4;
    private static final int MOST_ITEMS = 40;
    private static final int MISSING = -1;
    private static final int BYTES = 0, SHORTS = 1, LONGS = 3;
    private static final int SHELVES = 4;
    private static final int ROWS_TAKEN_FROM = 10;

    private static final int COUNTS = 0, CALLS = 1, PARTS = 2, LOOKS = 3;
    private static final int ACTS = 4;
    private static final int MOST_TRACED = 30;

    private final Park now;
    private final Park kept;
    private boolean anyKept;
    private final Trials trials;
    private final TapeReader tape;
    private final Rows rows;
    private final Sheets sheets;
    private final Shelves shelves;
    private final Actor actor;

    public LateSeekers() {
        trials = new Trials();
        now = trials.now;
        kept = new Park();
        tape = new TapeReader();
        rows = new Rows();
        sheets = new Sheets();
        shelves = new Shelves();
        actor = new Actor();
    }

    private static boolean within(int v, int least, int most) {
        return v >= least && v <= most;
    }

    private static boolean isKind(int kind) {
        return within(kind, 0, KINDS - 1);
    }

    private static boolean isPlace(int place) {
        return within(place, 0, PLACES - 1);
    }

    private static boolean isLaw(int law) {
        return within(law, 0, LAWS - 1);
    }

    private static boolean isSheet(int sheet) {
        return within(sheet, 0, SHEETS - 1);
    }

    private static boolean isShelf(int shelf) {
        return within(shelf, 0, SHELVES - 1);
    }

    public int feed(long eight, int n) {
        if (!within(n, 1, 8)) return BAD;
        if (tape.size + n > TAPE_BYTES) return FULL;
        tape.append(eight, n);
        return tape.size;
    }

    public int park() {
        Park told = trials.trial;
        told.becomeAsAtFirst();
        int fault = tape.readInto(told);
        tape.size = 0;
        if (fault != TapeReader.NO_FAULT) return FAULTS_FROM - fault;
        told.z = now.z;
        now.become(told);
        rows.size = 0;
        return now.people;
    }

    public int set(int law, int v) {
        if (!isLaw(law) || !within(v, 0, LAW_MOST[law])) return BAD;
        int was = now.law[law];
        now.law[law] = v;
        return was;
    }

    public int lawOf(int law) {
        return isLaw(law) ? now.law[law] : BAD;
    }

    public int person(int kind, int age, int wit, int at, int seeks) {
        boolean right = isKind(kind) && within(age, 0, MOST_AGE) && within(wit, 0, MOST_WIT)
                && isPlace(at) && within(seeks, 0, 1);
        if (!right) return BAD;
        if (now.people >= MOST_PEOPLE) return FULL;
        now.admit(kind, age, wit, at, seeks == 1);
        return now.people - 1;
    }

    public int of(int person, int what) {
        if (!now.has(person)) return BAD;
        switch (what) {
            case 0: return now.kind[person];
            case 1: return now.age[person];
            case 2: return now.wit[person];
            case 3: return now.at[person];
            case 4: return now.isHidden(person) ? 1 : 0;
            case 5: return now.finds[person];
            default: return BAD;
        }
    }

    public int does(int person, int what) {
        if (!now.has(person)) return BAD;
        switch (what) {
            case 0: return 1000 + now.hides(person);
            case 1: return 1000 + now.sees(person);
            case 2: return 1000 + now.strides(person);
            default: return BAD;
        }
    }

    public int mind(int person, int kind, int wit) {
        if (!now.has(person) || !isKind(kind) || !within(wit, 0, MOST_WIT)) return BAD;
        int was = now.kind[person];
        now.kind[person] = kind;
        now.wit[person] = wit;
        return was;
    }

    public int age(int person, int v) {
        if (!now.has(person) || !within(v, 0, MOST_AGE)) return BAD;
        int was = now.age[person];
        now.age[person] = v;
        return was;
    }

    public int bring(int person, int place) {
        if (!now.has(person) || !isPlace(place)) return BAD;
        int was = now.at[person];
        now.at[person] = place;
        return was;
    }

    public int seek(int person, int v) {
        if (!now.has(person) || !within(v, 0, 1)) return BAD;
        int was = now.isHidden(person) ? 0 : 1;
        now.hide(person, v == 0);
        return was;
    }

    public int place(int place, int what) {
        if (!isPlace(place)) return BAD;
        switch (what) {
            case 0: return now.cover[place];
            case 1: return now.peopleAt(place);
            case 2: return Integer.bitCount(now.peopleAt(place) & now.hidden);
            default: return BAD;
        }
    }

    public int cover(int place, int v) {
        if (!isPlace(place) || !within(v, 0, MOST_COVER)) return BAD;
        int was = now.cover[place];
        now.cover[place] = v;
        return was;
    }

    public int years(int n) {
        if (!within(n, 1, MOST_YEARS)) return BAD;
        now.passYears(n, EVERYBODY);
        return now.hiddenOnes();
    }

    public int seed(int v) {
        int was = now.z;
        now.z = v;
        return was;
    }

    public int year() {
        now.passYearByDraws();
        return now.hiddenOnes();
    }

    public int nights(int n) {
        return within(n, 1, MOST_NIGHTS) ? trials.nightsWithMoreHidden(n) : BAD;
    }

    public int state(int what) {
        switch (what) {
            case 0: return now.yearsGone;
            case 1: return now.hidden;
            case 2: return sumOf(now.age, now.people);
            case 3: return sumOf(now.finds, now.people);
            case 4: return now.hidingPlaces();
            case 5: return sumOf(now.cover, PLACES);
            default: return BAD;
        }
    }

    private static int sumOf(int[] numbers, int n) {
        int sum = 0;
        for (int i = 0; i < n && i < numbers.length; i++) sum += numbers[i];
        return sum;
    }

    public int where(int person, int n) {
        if (!now.has(person) || !within(n, 0, MOST_YEARS)) return BAD;
        trials.trial.become(now);
        trials.trial.passYears(n, EVERYBODY);
        return trials.trial.at[person];
    }

    public int shown(int person) {
        if (!now.has(person)) return BAD;
        int behind = trials.shownBehind(person, EVERYBODY);
        return behind == NEVER ? NONE : behind;
    }

    public int all() {
        int behind = trials.allShownBehind();
        return behind == NEVER ? NONE : behind;
    }

    public int finder(int person) {
        if (!now.has(person)) return BAD;
        int behind = trials.shownBehind(person, EVERYBODY);
        return within(behind, 1, MOST_YEARS) ? trials.trial.finderOf[person] : NONE;
    }

    public int safeFor(int person) {
        return now.has(person) ? trials.safestPlace(person) : BAD;
    }

    public int kindFor(int person) {
        return now.has(person) ? trials.safestKind(person) : BAD;
    }

    public int witFor(int person, int n) {
        if (!now.has(person) || !within(n, 1, MOST_YEARS_ASKED)) return BAD;
        return trials.leastHidingWit(person, n);
    }

    public int needed(int person) {
        return now.has(person) ? trials.mostNeeded(person) : BAD;
    }

    public int fewest(int person, int n) {
        if (!now.has(person) || !within(n, 1, MOST_YEARS_ASKED)) return BAD;
        return trials.fewestFinders(person, n);
    }

    public int round(int place) {
        return isPlace(place) ? stepsRound(place, now.hidingPlaces()) : BAD;
    }

    /** Going both ways, the shorter way is walked first, there and back. */
    private static int stepsRound(int from, int places) {
        int fewest = PLACES;
        for (int on = 0; on < PLACES; on++) {
            int back = 0;
            for (int d = PLACES - 1; d > on; d--) {
                if ((places >> (from + d) % PLACES & 1) != 0) back = PLACES - d;
            }
            fewest = Math.min(fewest, on + back + Math.min(on, back));
        }
        return fewest;
    }

    public int fits(int sheet, int person, int what) {
        if (!isSheet(sheet) || !now.has(person) || !within(what, 0, 1)) return BAD;
        if (sheets.isMissing(sheet)) return NOTHING_THERE;
        int wits = 0;
        int least = NONE;
        for (int wit = MOST_WIT; wit >= 0; wit--) {
            if (trials.wouldFit(person, wit, sheets, sheet)) {
                wits++;
                least = wit;
            }
        }
        return what == 0 ? wits : least;
    }

    public long odds(int n, int k, int part) {
        if (!within(n, 0, MOST_ODDS) || !within(k, 0, n) || !within(part, 0, 1)) return BAD;
        // odds are at most 1, so nothing here goes beyond 100 to the eighth
        long above = 1;
        long below = 1;
        for (int i = 0; i < k; i++) above = above * (n - i) / (i + 1);
        for (int i = 0; i < n; i++) {
            above *= i < k ? now.law[PEEP] : 100 - now.law[PEEP];
            below *= 100;
        }
        return partOf(above, below, part);
    }

    public long hope(int n, int part) {
        if (!within(n, 0, MOST_HOPE) || !within(part, 0, 1)) return BAD;
        return partOf((long) n * now.law[PEEP], 100, part);
    }

    private static long partOf(long above, long below, int part) {
        long common = commonDivisor(above, below);
        if (common == 0) return 0;
        return (part == 0 ? above : below) / common;
    }

    private static long commonDivisor(long a, long b) {
        // Euclid needs under 100 turns for any two longs
        for (int turn = 0; turn < 200 && b != 0; turn++) {
            long rest = a % b;
            a = b;
            b = rest;
        }
        return a;
    }

    public int prove(int person, int n) {
        if (!now.has(person) || !within(n, 1, MOST_ROWS)) return BAD;
        Park trial = trials.trial;
        trial.become(now);
        for (int i = 0; i < n; i++) {
            trial.passYear(EVERYBODY);
            rows.write(i, trial, person);
        }
        rows.size = n;
        return n;
    }

    public int row(int i, int what) {
        return rows.has(i, what) ? rows.parts[i * ROW_PARTS + what] : NO_ROW;
    }

    public int alterRow(int i, int what, int v) {
        if (!rows.has(i, what)) return NO_ROW;
        int was = rows.parts[i * ROW_PARTS + what];
        rows.parts[i * ROW_PARTS + what] = v;
        return was;
    }

    public int judge(int person) {
        if (!now.has(person)) return BAD;
        Park trial = trials.trial;
        trial.become(now);
        for (int i = 0; i < rows.size; i++) {
            trial.passYear(EVERYBODY);
            if (!rows.isRight(i, trial, person)) return i + 1;
        }
        return 0;
    }

    public int minds(int sheet, int i, int person, int n) {
        if (!isSheet(sheet) || !now.has(person) || !within(n, 0, MOST_PEOPLE)) return BAD;
        if (person + n > now.people) return BAD;
        if (sheets.isMissing(sheet)) return NOTHING_THERE;
        if (sheets.sort[sheet] != BYTES) return OTHER_SORT;
        if (!within(i, 0, sheets.size[sheet]) || i + n > sheets.size[sheet]) return OUTSIDE;
        for (int k = 0; k < n; k++) {
            now.wit[person + k] = Math.max(0, Math.min(MOST_WIT, sheets.read(sheet, i + k)));
        }
        return n;
    }

    public int sheet(int sheet, int sort, int n) {
        if (!isSheet(sheet) || !within(sort, MISSING, LONGS)) return BAD;
        if (sort == MISSING) {
            sheets.remove(sheet);
            return 1;
        }
        if (n > MOST_ITEMS) return BAD;
        if (n < 0) return BELOW_NOTHING;
        sheets.lay(sheet, sort, n);
        return 1;
    }

    public int put(int sheet, int i, int v) {
        if (!isSheet(sheet)) return BAD;
        if (sheets.isMissing(sheet)) return NOTHING_THERE;
        if (!sheets.hasItem(sheet, i)) return OUTSIDE;
        sheets.write(sheet, i, v);
        return 1;
    }

    public int item(int sheet, int sort, int i) {
        if (!isSheet(sheet) || !within(sort, BYTES, LONGS)) return BAD;
        if (sheets.isMissing(sheet)) return NOTHING_THERE;
        if (sheets.sort[sheet] != sort) return OTHER_SORT;
        return sheets.hasItem(sheet, i) ? sheets.read(sheet, i) : OUTSIDE;
    }

    public int shelf(int shelf, int what, int n) {
        if (!isShelf(shelf)) return BAD;
        switch (what) {
            case 0:
                if (!now.has(n)) return BAD;
                shelves.holdPerson(shelf, n);
                return 1;
            case 1:
                if (!isSheet(n)) return BAD;
                shelves.holdRow(shelf, sheets.sort[n], sheets.size[n]);
                return 1;
            case 2:
                shelves.holdNothing(shelf);
                return 1;
            default:
                return BAD;
        }
    }

    public int taken(int shelf, int as) {
        boolean asRow = within(as, ROWS_TAKEN_FROM + BYTES, ROWS_TAKEN_FROM + LONGS);
        if (!isShelf(shelf) || !asRow && !isKind(as)) return BAD;
        if (shelves.holdsRow(shelf)) {
            return as - ROWS_TAKEN_FROM == shelves.rowSort[shelf] ? shelves.rowSize[shelf] : OTHER_SORT;
        }
        int held = shelves.person[shelf];
        if (!now.has(held)) return NOTHING_THERE;
        return !asRow && isUnder(now.kind[held], as) ? held : OTHER_SORT;
    }

    private static boolean isUnder(int kind, int as) {
        int k = kind;
        for (int up = 0; up < KINDS && isKind(k); up++) {
            if (k == as) return true;
            k = KIND_ABOVE[k];
        }
        return false;
    }

    public int act(int shelf, int act, int x) {
        actor.traced = 0;
        if (!isShelf(shelf) || !within(act, 0, ACTS - 1) || shelves.holdsRow(shelf)) return 0;
        int held = shelves.person[shelf];
        return now.has(held) ? actor.perform(now, held, act, x) : 0;
    }

    public int trace(int i) {
        return within(i, 0, actor.traced - 1) ? actor.traceOf[i] : NONE;
    }

    public int many(int what) {
        switch (what) {
            case 0: return now.people;
            case 1: return now.hiddenOnes();
            case 2: return Integer.bitCount(now.hidingPlaces());
            case 3: return now.peopleInCompany();
            case 4: return rows.size;
            case 5: return tape.size;
            case 6: return actor.traced;
            default: return BAD;
        }
    }

    public int keep() {
        kept.become(now);
        anyKept = true;
        return 1;
    }

    public int again() {
        if (!anyKept) return NONE;
        now.become(kept);
        return now.people;
    }

    /** All that keep() keeps: LAWS, YEAR, PLACES, PEOPLE and z. */
    private static final class Park {
        final int[] law = new int[LAWS];
        final int[] cover = new int[PLACES];
        final int[] kind = new int[MOST_PEOPLE];
        final int[] age = new int[MOST_PEOPLE];
        final int[] wit = new int[MOST_PEOPLE];
        final int[] at = new int[MOST_PEOPLE];
        final int[] finds = new int[MOST_PEOPLE];
        /** Who found each in the latest YEAR, or NONE: FINDER asks for it, nothing else. */
        final int[] finderOf = new int[MOST_PEOPLE];
        int people;
        /** Those HIDDEN, as a set. */
        int hidden;
        int yearsGone;
        int z = 1;

        Park() {
            becomeAsAtFirst();
        }

        /** z is left alone: a text doesn't touch it. */
        void becomeAsAtFirst() {
            for (int i = 0; i < LAWS; i++) law[i] = LAW_AT_FIRST[i];
            for (int i = 0; i < PLACES; i++) cover[i] = COVER_AT_FIRST;
            people = 0;
            hidden = 0;
            yearsGone = 0;
        }

        void become(Park other) {
            System.arraycopy(other.law, 0, law, 0, LAWS);
            System.arraycopy(other.cover, 0, cover, 0, PLACES);
            System.arraycopy(other.kind, 0, kind, 0, MOST_PEOPLE);
            System.arraycopy(other.age, 0, age, 0, MOST_PEOPLE);
            System.arraycopy(other.wit, 0, wit, 0, MOST_PEOPLE);
            System.arraycopy(other.at, 0, at, 0, MOST_PEOPLE);
            System.arraycopy(other.finds, 0, finds, 0, MOST_PEOPLE);
            people = other.people;
            hidden = other.hidden;
            yearsGone = other.yearsGone;
            z = other.z;
        }

        boolean has(int person) {
            return person >= 0 && person < people;
        }

        /** Where there is no room for one more, nothing happens: who calls has looked. */
        void admit(int ofKind, int ofAge, int ofWit, int place, boolean seeks) {
            if (people >= MOST_PEOPLE) return;
            int one = people++;
            kind[one] = ofKind;
            age[one] = ofAge;
            wit[one] = ofWit;
            at[one] = place;
            finds[one] = 0;
            hide(one, !seeks);
        }

        boolean isHidden(int person) {
            return (hidden >> person & 1) != 0;
        }

        void hide(int person, boolean hides) {
            if (hides) hidden |= 1 << person;
            else hidden &= ~(1 << person);
        }

        int hiddenOnes() {
            return Integer.bitCount(hidden);
        }

        int peopleAt(int place) {
            int set = 0;
            for (int i = 0; i < people; i++) {
                if (at[i] == place) set |= 1 << i;
            }
            return set;
        }

        int hidingPlaces() {
            int set = 0;
            for (int i = 0; i < people; i++) {
                if (isHidden(i)) set |= 1 << at[i];
            }
            return set;
        }

        int peopleInCompany() {
            int n = 0;
            for (int i = 0; i < people; i++) {
                if (Integer.bitCount(peopleAt(at[i])) > 1) n++;
            }
            return n;
        }

        int hides(int person) {
            int asChild = cover[at[person]] + wit[person];
            switch (kind[person]) {
                case WIDOWER: return asChild / 2;
                case GRANDSON: return asChild / 2 + 2;
                case KEEPER: return asChild - 3;
                case SCHOLAR: return asChild - 3 + age[person] / 10;
                case LADY: return asChild + law[DARK];
                default: return asChild;
            }
        }

        int sees(int person) {
            int asChild = 3 + wit[person];
            switch (kind[person]) {
                case WIDOWER: return asChild + law[LAMP];
                case GRANDSON: return (asChild + law[LAMP]) * 2;
                case KEEPER: return asChild + 4;
                case SCHOLAR: return asChild + 4 - law[DARK];
                case LADY: return yearsGone % 2 == 0 ? asChild : 0;
                default: return asChild;
            }
        }

        int strides(int person) {
            switch (kind[person]) {
                case WIDOWER: return 2;
                case GRANDSON: return 3;
                case KEEPER: return -1;
                case SCHOLAR: return -2;
                case LADY: return 0;
                default: return 1;
            }
        }

        void passYears(int n, int finders) {
            for (int i = 0; i < n; i++) passYear(finders);
        }

        /** A YEAR in which only those of the set of finders find anybody. */
        void passYear(int finders) {
            growOlder();
            for (int i = 0; i < people; i++) finderOf[i] = NONE;
            int seekers = ~hidden;
            for (int i = 0; i < people; i++) {
                if ((seekers >> i & 1) != 0) goSeeking(i, (finders >> i & 1) != 0);
            }
            yearsGone++;
        }

        private void growOlder() {
            for (int i = 0; i < people; i++) {
                if (age[i] < MOST_AGE) age[i]++;
                if (age[i] >= law[OUT]) hide(i, false);
            }
        }

        private void goSeeking(int person, boolean finds) {
            at[person] = Math.floorMod(at[person] + strides(person), PLACES);
            if (finds) findOne(person);
        }

        private void findOne(int person) {
            int sight = sees(person);
            for (int i = 0; i < people; i++) {
                if (isHidden(i) && at[i] == at[person] && hides(i) < sight) {
                    hide(i, false);
                    hide(person, true);
                    finderOf[i] = person;
                    if (finds[person] < MOST_FINDS) finds[person]++;
                    return;
                }
            }
        }

        void passYearByDraws() {
            if (people > 0) {
                int one = drawn() % people;
                if (drawn() % 100 < law[PEEP]) hide(one, !isHidden(one));
            }
            passYear(EVERYBODY);
        }

        private int drawn() {
            z = z * 1103515245 + 12345;
            return z >>> 16;
        }
    }

    /** What is TRIED: all goes on in the one trial, which is made as now before each. */
    private static final class Trials {
        final Park now = new Park();
        final Park trial = new Park();

        int shownBehind(int person, int finders) {
            trial.become(now);
            return yearsUntilShown(person, finders);
        }

        /** The trial is left as it is behind those YEARS, so that FINDER can look who found the one. */
        private int yearsUntilShown(int person, int finders) {
            for (int n = 0; n <= MOST_YEARS; n++) {
                if (!trial.isHidden(person)) return n;
                trial.passYear(finders);
            }
            return NEVER;
        }

        int allShownBehind() {
            trial.become(now);
            for (int n = 0; n <= MOST_YEARS; n++) {
                if (trial.hidden == 0) return n;
                trial.passYear(EVERYBODY);
            }
            return NEVER;
        }

        int safestPlace(int person) {
            int safest = 0;
            int latest = -1;
            for (int place = 0; place < PLACES; place++) {
                trial.become(now);
                trial.at[person] = place;
                trial.hide(person, true);
                int behind = yearsUntilShown(person, EVERYBODY);
                if (behind > latest) {
                    latest = behind;
                    safest = place;
                }
            }
            return safest;
        }

        int safestKind(int person) {
            int safest = 0;
            int latest = -1;
            for (int kind = 0; kind < KINDS; kind++) {
                trial.become(now);
                trial.kind[person] = kind;
                int behind = yearsUntilShown(person, EVERYBODY);
                if (behind > latest) {
                    latest = behind;
                    safest = kind;
                }
            }
            return safest;
        }

        int leastHidingWit(int person, int n) {
            for (int wit = 0; wit <= MOST_WIT; wit++) {
                trial.become(now);
                trial.wit[person] = wit;
                trial.passYears(n, EVERYBODY);
                if (trial.isHidden(person)) return wit;
            }
            return NONE;
        }

        int mostNeeded(int person) {
            int most = NONE;
            int latest = shownBehind(person, EVERYBODY);
            for (int one = 0; one < now.people; one++) {
                int behind = shownBehind(person, EVERYBODY & ~(1 << one));
                if (behind > latest) {
                    latest = behind;
                    most = one;
                }
            }
            return most;
        }

        int fewestFinders(int person, int n) {
            int sets = 1 << now.people;
            for (int size = 0; size <= now.people; size++) {
                for (int set = 0; set < sets; set++) {
                    if (Integer.bitCount(set) == size && seeksBehind(person, n, set)) return set;
                }
            }
            return NONE;
        }

        private boolean seeksBehind(int person, int n, int finders) {
            trial.become(now);
            trial.passYears(n, finders);
            return !trial.isHidden(person);
        }

        boolean wouldFit(int person, int wit, Sheets sheets, int sheet) {
            trial.become(now);
            trial.wit[person] = wit;
            for (int i = 0; i < sheets.size[sheet]; i++) {
                trial.passYear(EVERYBODY);
                int told = sheets.read(sheet, i);
                if (told != -1 && told != trial.at[person]) return false;
            }
            return true;
        }

        /** The trial starts from now each time, but its z goes on from one night to the next. */
        int nightsWithMoreHidden(int n) {
            int nights = 0;
            int z = now.z;
            for (int i = 0; i < n; i++) {
                trial.become(now);
                trial.z = z;
                trial.passYearByDraws();
                z = trial.z;
                if (trial.hiddenOnes() > now.hiddenOnes()) nights++;
            }
            return nights;
        }
    }

    /** THE TAPE, and the reading of its TEXT: from the first FAULT on nothing more is taken. */
    private static final class TapeReader {
        static final int NO_FAULT = -1;
        private static final int MOST_DIGITS = 3;
        private static final int END = 0, NAME = 1, NUMBER = 2, OTHER = 3;

        final byte[] bytes = new byte[TAPE_BYTES];
        int size;
        /** The NAME, NUMBER or other byte that comes next: its sort, its first byte, the byte behind it. */
        private int sort;
        private int from;
        private int to;
        private int fault;

        void append(long eight, int n) {
            for (int i = 0; i < n && size < TAPE_BYTES; i++) bytes[size++] = (byte) (eight >>> 8 * i);
        }

        /** Answers the FAULT, or NO_FAULT. */
        int readInto(Park park) {
            fault = NO_FAULT;
            to = 0;
            advance();
            // each turn takes a byte at least
            for (int turn = 0; turn <= TAPE_BYTES && sort != END && fault == NO_FAULT; turn++) {
                readStatement(park);
            }
            return fault;
        }

        private void readStatement(Park park) {
            for (int kind = 0; kind < KINDS; kind++) {
                if (isNext(kindName(kind))) {
                    readPerson(park, kind);
                    return;
                }
            }
            for (int law = 0; law < LAWS; law++) {
                if (isNext(lawName(law))) {
                    readLaw(park, law);
                    return;
                }
            }
            readCover(park);
        }

        private void readPerson(Park park, int kind) {
            if (park.people >= MOST_PEOPLE) {
                fail();
                return;
            }
            advance();
            takeName("at");
            int at = takeNumber(PLACES - 1);
            int age = takeNumberIfNamed("age", MOST_AGE);
            int wit = takeNumberIfNamed("wit", MOST_WIT);
            boolean seeks = isNext("seeks");
            if (seeks) advance();
            takeSemicolon();
            if (fault == NO_FAULT) park.admit(kind, age, wit, at, seeks);
        }

        private void readLaw(Park park, int law) {
            advance();
            int v = takeNumber(LAW_MOST[law]);
            takeSemicolon();
            if (fault == NO_FAULT) park.law[law] = v;
        }

        private void readCover(Park park) {
            takeName("cover");
            int place = takeNumber(PLACES - 1);
            takeName("is");
            int v = takeNumber(MOST_COVER);
            takeSemicolon();
            if (fault == NO_FAULT) park.cover[place] = v;
        }

        private void takeName(String name) {
            if (isNext(name)) advance();
            else fail();
        }

        private int takeNumberIfNamed(String name, int most) {
            if (!isNext(name)) return 0;
            advance();
            return takeNumber(most);
        }

        private int takeNumber(int most) {
            int v = 0;
            if (sort != NUMBER || to - from > MOST_DIGITS) {
                fail();
                return 0;
            }
            for (int i = from; i < to; i++) v = v * 10 + (bytes[i] - '0');
            if (v > most) {
                fail();
                return 0;
            }
            advance();
            return v;
        }

        private void takeSemicolon() {
            if (sort == OTHER && bytes[from] == ';') advance();
            else fail();
        }

        private void fail() {
            if (fault == NO_FAULT) fault = from;
        }

        private boolean isNext(String name) {
            if (fault != NO_FAULT || sort != NAME || to - from != name.length()) return false;
            for (int i = from; i < to; i++) {
                if (bytes[i] != name.charAt(i - from)) return false;
            }
            return true;
        }

        private void advance() {
            from = to;
            while (from < size && bytes[from] == ' ') from++;
            to = from;
            sort = sortAt(from);
            if (sort == END) return;
            to++;
            if (sort == OTHER) return;
            while (to < size && sortAt(to) == sort) to++;
        }

        private int sortAt(int i) {
            if (i >= size) return END;
            if (bytes[i] >= 'a' && bytes[i] <= 'z') return NAME;
            if (bytes[i] >= '0' && bytes[i] <= '9') return NUMBER;
            return OTHER;
        }

        private static String kindName(int kind) {
            switch (kind) {
                case CHILD: return "child";
                case WIDOWER: return "widower";
                case KEEPER: return "keeper";
                case GRANDSON: return "grandson";
                case SCHOLAR: return "scholar";
                default: return "lady";
            }
        }

        private static String lawName(int law) {
            switch (law) {
                case OUT: return "out";
                case DARK: return "dark";
                case LAMP: return "lamp";
                default: return "peep";
            }
        }
    }

    /** ROWS, each of a PLACE, whether HIDDEN, and FINDS. */
    private static final class Rows {
        final int[] parts = new int[MOST_ROWS * ROW_PARTS];
        int size;

        boolean has(int i, int what) {
            return i >= 0 && i < size && what >= 0 && what < ROW_PARTS;
        }

        void write(int i, Park park, int person) {
            for (int what = 0; what < ROW_PARTS; what++) parts[i * ROW_PARTS + what] = due(park, person, what);
        }

        boolean isRight(int i, Park park, int person) {
            for (int what = 0; what < ROW_PARTS; what++) {
                if (parts[i * ROW_PARTS + what] != due(park, person, what)) return false;
            }
            return true;
        }

        private static int due(Park park, int person, int what) {
            switch (what) {
                case 0: return park.at[person];
                case 1: return park.isHidden(person) ? 1 : 0;
                default: return park.finds[person];
            }
        }
    }

    /** SHEETS: items are put as ints, so that an int holds even one of longs. */
    private static final class Sheets {
        final int[] sort = {MISSING, MISSING, MISSING, MISSING};
        final int[] size = new int[SHEETS];
        private final int[] items = new int[SHEETS * MOST_ITEMS];

        boolean isMissing(int sheet) {
            return sort[sheet] == MISSING;
        }

        boolean hasItem(int sheet, int i) {
            return i >= 0 && i < size[sheet];
        }

        void lay(int sheet, int ofSort, int n) {
            sort[sheet] = ofSort;
            size[sheet] = n;
            for (int i = 0; i < n; i++) items[sheet * MOST_ITEMS + i] = 0;
        }

        void remove(int sheet) {
            sort[sheet] = MISSING;
            size[sheet] = 0;
        }

        int read(int sheet, int i) {
            return items[sheet * MOST_ITEMS + i];
        }

        void write(int sheet, int i, int v) {
            items[sheet * MOST_ITEMS + i] = narrowed(v, sort[sheet]);
        }

        private static int narrowed(int v, int toSort) {
            switch (toSort) {
                case BYTES: return (byte) v;
                case SHORTS: return (short) v;
                default: return v;
            }
        }
    }

    /**
     * SHELVES: each holds one of PEOPLE or a row or nothing. Of a row its sort and size are all that
     * can be asked, and these stay when the SHEET it was on becomes another row.
     */
    private static final class Shelves {
        private static final int NOBODY = -1;

        final int[] person = {NOBODY, NOBODY, NOBODY, NOBODY};
        final int[] rowSort = {MISSING, MISSING, MISSING, MISSING};
        final int[] rowSize = new int[SHELVES];

        boolean holdsRow(int shelf) {
            return rowSort[shelf] != MISSING;
        }

        void holdPerson(int shelf, int one) {
            holdNothing(shelf);
            person[shelf] = one;
        }

        void holdRow(int shelf, int sort, int size) {
            holdNothing(shelf);
            rowSort[shelf] = sort;
            rowSize[shelf] = size;
        }

        void holdNothing(int shelf) {
            person[shelf] = NOBODY;
            rowSort[shelf] = MISSING;
            rowSize[shelf] = 0;
        }
    }

    /** ACTS and THE TRACE. */
    private static final class Actor {
        /** The body that each KIND runs for each ACT, its own or the nearest one above it. */
        private static final int[] BODIES = {
            10, 11, 12, 13,
            10, 20, 12, 13,
            30, 11, 12, 31,
            51, 20, 50, 13,
            40, 41, 12, 31,
            10, 11, 61, 60,
        };
        /** No act of the document opens more than seven bodies at once. */
        private static final int DEEPEST = 12;

        final int[] traceOf = new int[MOST_TRACED];
        int traced;
        private int ownKind;
        private int n;
        private int a;
        private boolean partedByNothing;

        /** THE TRACE is emptied by act() already, which does so even where nothing acts. */
        int perform(Park park, int person, int act, int x) {
            partedByNothing = false;
            ownKind = park.kind[person];
            n = person;
            a = park.wit[person];
            int answer = run(ownKind, act, x, 0);
            return partedByNothing ? PARTED_BY_NOTHING : answer;
        }

        /** An act as a thing of that KIND does it; what it calls in turn, but for super, is ownKind's. */
        private int run(int kind, int act, int x, int depth) {
            int at = kind * ACTS + act;
            if (depth > DEEPEST || partedByNothing || at < 0 || at >= BODIES.length) return 0;
            int body = BODIES[at];
            if (traced < MOST_TRACED) traceOf[traced++] = body;
            int d = depth + 1;
            switch (body) {
                case 10: return x - n * 2;
                case 11: return run(ownKind, COUNTS, x, d) * 2 - a;
                case 12: return quotient(x, a - n);
                case 13: return run(ownKind, CALLS, x, d) ^ 12;
                case 20: return run(CHILD, CALLS, x, d) + 5;
                case 30: return run(CHILD, COUNTS, x, d) ^ 3;
                case 31: return run(CHILD, LOOKS, x, d) - run(ownKind, PARTS, n, d);
                case 40: return 1 - run(KEEPER, COUNTS, x, d);
                case 41: return run(KEEPER, CALLS, x, d) + run(ownKind, COUNTS, a, d);
                case 50: return run(WIDOWER, PARTS, x + a, d) * 2;
                case 51: return run(WIDOWER, COUNTS, x, d) - n;
                case 60: return run(CHILD, LOOKS, x, d) * 3;
                case 61: return run(CHILD, PARTS, x, d) ^ run(ownKind, COUNTS, n, d);
                default: return 0;
            }
        }

        /** Once parted by 0 the whole act is over: no body begins any more. */
        private int quotient(int x, int by) {
            if (by == 0) {
                partedByNothing = true;
                return 0;
            }
            return x / by;
        }
    }
}
