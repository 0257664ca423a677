/** The books of a kingdom whose pigeons draw pensions; ../shared/DOC.md tells what each call promises. */
public final class PigeonRolls {
    private static final int LOW = -1000001;

    // Findings, by how far below LOW each is.
    private static final int BEYOND = 0;
    private static final int FULL = 1;
    private static final int OTHER_KIND = 2;
    private static final int NONE = 3;
    private static final int STATE = 4;
    private static final int MISSING = 5;
    private static final int SIZE = 6;
    private static final int FINDINGS = 7;

    // What is written of a bird, numbered as of() and change() number it.
    private static final int KIND = 0;
    private static final int LOFT = 1;
    private static final int FROM = 2;
    private static final int AGE = 3;
    private static final int CARRIED = 4;
    private static final int BOY = 5;
    private static final int OFF = 6;
    private static final int OWED = 7;
    private static final int PAID = 8;
    private static final int TRAITS = 9;
    // What is reckoned of a bird.
    private static final int LIVES = 9;
    private static final int RATE = 10;
    private static final int EATS = 11;
    private static final int LINE = 12;
    private static final int DRAWS = 13;

    private static final int BIRD = 0;
    private static final int HEN = 1;
    private static final int COCK = 2;
    private static final int DUKE = 3;
    private static final int EAGLE = 4;
    private static final int JACKDAW = 5;
    private static final int WIDOW = 6;
    private static final int KINDS = 7;

    private static final int NOBODY = -1;
    private static final int MOST_BIRDS = 8;
    private static final int MOST_LOFT = 5;
    private static final int MOST_OF_A_BIRD = 9999;
    private static final int MOST_CORN = 99999;
    private static final int MOST_DAY = 99999;
    private static final int PLACES = 6;
    private static final int MOST_HARVEST = 99;
    private static final int QUARTER = 6;
    private static final int SPOTS = 10;
    private static final int SHEETS = 4;
    private static final int MOST_NUMBERS = 40;
    private static final int MOST_BYTES = 120;
    private static final int FAR = 200;
    private static final int ASKED_NUMBERS = 10;
    private static final int ANY = -1;

    private final Kingdom realm = new Kingdom();
    private final Kingdom kept = new Kingdom();
    // Where it is tried what would be, so that no call makes objects.
    private final Kingdom trial = new Kingdom();
    private final Tape tape = new Tape();
    private final Sheet[] sheets = new Sheet[SHEETS];
    private final int[] found = new int[FINDINGS];
    private boolean keeps = false;

    public PigeonRolls() {
        for (int s = 0; s < SHEETS; s++) {
            sheets[s] = new Sheet();
        }
    }

    // ---- kingdom, birds

    public int harvest(int i, int v) {
        if (!within(i, 0, PLACES - 1) || !within(v, 0, MOST_HARVEST)) {
            return finding(BEYOND);
        }
        int was = realm.list[i];
        realm.list[i] = v;
        return was;
    }

    public int listed(int i) {
        if (!within(i, 0, PLACES - 1)) {
            return finding(BEYOND);
        }
        return realm.list[i];
    }

    public int corn(int v) {
        if (!within(v, 0, MOST_CORN)) {
            return finding(BEYOND);
        }
        int was = realm.treasury;
        realm.treasury = v;
        return was;
    }

    public int bird(int kind, int loft) {
        if (!within(kind, 0, KINDS - 1) || !within(loft, 0, MOST_LOFT)) {
            return finding(BEYOND);
        }
        if (realm.isFull()) {
            return finding(FULL);
        }
        return realm.add(kind, loft, NOBODY);
    }

    public int hatch(int from, int kind) {
        if (!realm.has(from) || !within(kind, 0, KINDS - 1)) {
            return finding(BEYOND);
        }
        if (realm.isFull()) {
            return finding(FULL);
        }
        if (realm.isDead(from)) {
            return finding(STATE);
        }
        return realm.add(kind, realm.loft[from], from);
    }

    public int of(int bird, int what) {
        if (!realm.has(bird) || !within(what, KIND, DRAWS)) {
            return finding(BEYOND);
        }
        return realm.tell(bird, what);
    }

    public int change(int bird, int what, int v) {
        if (!realm.has(bird) || !within(what, KIND, PAID) || !Kingdom.allows(bird, what, v)) {
            return finding(BEYOND);
        }
        int was = realm.traits[what][bird];
        realm.traits[what][bird] = v;
        return was;
    }

    public int loft(int loft) {
        if (!within(loft, 0, MOST_LOFT)) {
            return finding(BEYOND);
        }
        return realm.loftSet(loft);
    }

    public int issue(int bird) {
        if (!realm.has(bird)) {
            return finding(BEYOND);
        }
        return realm.issueSet(bird);
    }

    // ---- days

    public int go(int n) {
        if (!within(n, 1, 60)) {
            return finding(BEYOND);
        }
        if (realm.day + n > MOST_DAY) {
            return finding(STATE);
        }
        realm.passDays(n);
        return realm.treasury;
    }

    public int now(int what) {
        switch (what) {
            case 0:
                return realm.day;
            case 1:
                return realm.treasury;
            case 2:
                return realm.drawSet(realm.lineSet());
            case 3:
                return realm.deadSet();
            case 4:
                return realm.together(OWED);
            case 5:
                return realm.ratesTogether();
            case 6:
                return realm.lineSet();
            case 7:
                return realm.together(PAID);
            default:
                return finding(BEYOND);
        }
    }

    // ---- what will be (nothing changes)

    public int ahead(int bird, int what, int n) {
        boolean told = what == OWED || what == PAID || what == RATE || what == DRAWS;
        if (!realm.has(bird) || !told || !within(n, 0, 100)) {
            return finding(BEYOND);
        }
        trial.become(realm);
        trial.passDays(n);
        return trial.tell(bird, what);
    }

    public int budget(int n) {
        if (!within(n, 0, 100)) {
            return finding(BEYOND);
        }
        trial.become(realm);
        trial.passDays(n);
        return trial.treasury;
    }

    public int dies(int bird) {
        if (!realm.has(bird)) {
            return finding(BEYOND);
        }
        int lives = realm.tell(bird, LIVES);
        int days = Math.max(0, lives + 1 - realm.age[bird]);
        // No age is ever above the greatest, so who lives that long doesn't die.
        if (lives >= MOST_OF_A_BIRD || days > FAR) {
            return finding(NONE);
        }
        return days;
    }

    public int fails() {
        trial.become(realm);
        int line = trial.lineSet();
        for (int days = 0; days <= FAR; days++) {
            if (trial.owedSet() != 0) {
                return days;
            }
            trial.passDay(line);
        }
        return finding(NONE);
    }

    public int when(int bird, int v) {
        if (!realm.has(bird) || !within(v, 0, MOST_OF_A_BIRD)) {
            return finding(BEYOND);
        }
        trial.become(realm);
        int line = trial.lineSet();
        for (int days = 0; days <= FAR; days++) {
            if (trial.paid[bird] >= v) {
                return days;
            }
            trial.passDay(line);
        }
        return finding(NONE);
    }

    public int ends() {
        trial.become(realm);
        int line = trial.lineSet();
        for (int days = 0; days <= FAR; days++) {
            if (trial.drawSet(line) == 0) {
                return days;
            }
            trial.passDay(line);
        }
        return finding(NONE);
    }

    // ---- whom to strike off

    public int harvestFor(int i, int n) {
        if (!within(i, 0, PLACES - 1) || !within(n, 0, 60)) {
            return finding(BEYOND);
        }
        // All are tried in turn: with more corn an eagle's rate is less, so more isn't always safer.
        for (int v = 0; v <= MOST_HARVEST; v++) {
            trial.become(realm);
            trial.list[i] = v;
            trial.passDays(n);
            if (trial.owedSet() == 0) {
                return v;
            }
        }
        return finding(NONE);
    }

    public int kindFor(int bird, int n) {
        if (!realm.has(bird) || !within(n, 0, 60)) {
            return finding(BEYOND);
        }
        int best = 0;
        int most = -1;
        for (int kind = 0; kind < KINDS; kind++) {
            int paid = paidWith(bird, KIND, kind, n);
            if (paid > most) {
                most = paid;
                best = kind;
            }
        }
        return best;
    }

    public int parentFor(int bird, int n) {
        if (!realm.has(bird) || !within(n, 0, 60)) {
            return finding(BEYOND);
        }
        int best = NOBODY;
        int most = -1;
        for (int parent = 0; parent < bird; parent++) {
            int paid = paidWith(bird, FROM, parent, n);
            if (paid > most) {
                most = paid;
                best = parent;
            }
        }
        return paidWith(bird, FROM, NOBODY, n) > most ? NOBODY : best;
    }

    public int strike(int n) {
        if (!within(n, 0, 24)) {
            return finding(BEYOND);
        }
        int sets = 1 << realm.birds;
        for (int size = 0; size <= realm.birds; size++) {
            for (int set = 0; set < sets; set++) {
                if (Integer.bitCount(set) == size && onlyTheseOwed(set, n)) {
                    return set;
                }
            }
        }
        return finding(NONE);
    }

    public int deny(int bird) {
        if (!realm.has(bird)) {
            return finding(BEYOND);
        }
        // Each that carried in the line of descent would do alone, so all of them must go.
        return realm.carriersAbove(bird);
    }

    // ---- told arrears

    public int fits(int s, int bird) {
        Sheet told = sheetOf(s);
        if (told == null) {
            return finding(BEYOND);
        }
        if (told.isMissing()) {
            return finding(MISSING);
        }
        if (!realm.has(bird)) {
            return finding(BEYOND);
        }
        int ages = 0;
        for (int age = 0; age <= 99; age++) {
            if (arrearsAgree(told, bird, AGE, age)) {
                ages++;
            }
        }
        return ages;
    }

    public int kinds(int s, int bird) {
        Sheet told = sheetOf(s);
        if (told == null) {
            return finding(BEYOND);
        }
        if (told.isMissing()) {
            return finding(MISSING);
        }
        if (!realm.has(bird)) {
            return finding(BEYOND);
        }
        int set = 0;
        for (int kind = 0; kind < KINDS; kind++) {
            if (arrearsAgree(told, bird, KIND, kind)) {
                set |= 1 << kind;
            }
        }
        return set;
    }

    // ---- hatchings

    public int hatchings(int n) {
        if (!within(n, 1, 20)) {
            return finding(BEYOND);
        }
        if (realm.day + n > MOST_DAY) {
            return finding(STATE);
        }
        int line = realm.lineSet();
        for (int i = 0; i < n; i++) {
            realm.list[realm.day % PLACES] = realm.drawOfChance() % 100;
            int bird = realm.drawOfChance() % 8;
            if (realm.has(bird)) {
                realm.boy[bird] = 1 - realm.boy[bird];
            }
            realm.passDay(line);
        }
        return realm.treasury;
    }

    public long odds(int bird, int n, int what) {
        if (!realm.has(bird) || !within(n, 0, 9) || !within(what, 0, 1)) {
            return finding(BEYOND);
        }
        int enough = Math.max(0, 100 - realm.rateOf(bird) - realm.owed[bird]);
        int common = commonDivisor(enough, 100);
        return power((what == 0 ? enough : 100) / common, n);
    }

    public int seed(int v) {
        int was = realm.chance;
        realm.chance = v;
        return was;
    }

    // ---- texts

    public int feed(int bytes, int n) {
        if (!within(n, 1, 4)) {
            return finding(BEYOND);
        }
        if (tape.length + n > MOST_BYTES) {
            return finding(FULL);
        }
        for (int i = n - 1; i >= 0; i--) {
            tape.append(bytes >>> (8 * i) & 255);
        }
        return tape.length;
    }

    public int wipe() {
        int had = tape.length;
        tape.length = 0;
        return had;
    }

    public int text() {
        trial.become(realm);
        int items = tape.readInto(trial);
        if (items >= 0) {
            realm.become(trial);
        }
        tape.length = 0;
        return items;
    }

    // ---- spots, sheets

    public int hold(int spot, int bird) {
        if (!within(spot, 0, SPOTS - 1) || bird != NOBODY && !realm.has(bird)) {
            return finding(BEYOND);
        }
        realm.spots[spot] = bird;
        return 1;
    }

    public int as(int spot, int kind) {
        if (!within(spot, 0, SPOTS - 1) || !within(kind, 0, KINDS - 1)) {
            return finding(BEYOND);
        }
        int bird = realm.spots[spot];
        if (!realm.has(bird)) {
            return finding(MISSING);
        }
        if (!realm.isOfKind(bird, kind)) {
            return finding(OTHER_KIND);
        }
        return bird;
    }

    public int sheet(int s, int bits, int n) {
        Sheet made = sheetOf(s);
        if (made == null || bits != 0 && bits != 8 && bits != 16 && bits != 32) {
            return finding(BEYOND);
        }
        if (n < 0) {
            return finding(SIZE);
        }
        if (n > MOST_NUMBERS) {
            return finding(BEYOND);
        }
        made.begin(bits, bits == 0 ? 0 : n);
        return made.length;
    }

    public int write(int s, int i, int v) {
        Sheet written = sheetOf(s);
        if (written == null) {
            return finding(BEYOND);
        }
        if (written.isMissing()) {
            return finding(MISSING);
        }
        if (!within(i, 0, written.length - 1)) {
            return finding(BEYOND);
        }
        written.put(i, v);
        return 1;
    }

    public int copy(int s, int from, int t, int to, int n) {
        Sheet source = sheetOf(s);
        Sheet target = sheetOf(t);
        if (source == null || target == null) {
            return finding(BEYOND);
        }
        if (source.isMissing() || target.isMissing()) {
            return finding(MISSING);
        }
        if (source.bits != target.bits) {
            return finding(OTHER_KIND);
        }
        if (!source.hasRow(from, n) || !target.hasRow(to, n)) {
            return finding(BEYOND);
        }
        System.arraycopy(source.numbers, from, target.numbers, to, n);
        return n;
    }

    public int load(int s) {
        Sheet told = sheetOf(s);
        if (told == null) {
            return finding(BEYOND);
        }
        if (told.isMissing()) {
            return finding(MISSING);
        }
        int came = 0;
        while (came < PLACES && came < told.length && within(told.numbers[came], 0, MOST_HARVEST)) {
            realm.list[came] = told.numbers[came];
            came++;
        }
        return came;
    }

    public int judge(int s) {
        Sheet told = sheetOf(s);
        if (told == null) {
            return finding(BEYOND);
        }
        if (told.isMissing()) {
            return finding(MISSING);
        }
        for (int i = 0; i < told.length; i++) {
            // A number without a bird tells of nobody, so it can't be so.
            if (!realm.has(i) || realm.owed[i] != told.numbers[i]) {
                return 1 + i;
            }
        }
        return 0;
    }

    // ---- images

    public int image() {
        kept.become(realm);
        keeps = true;
        return 1;
    }

    public int undo() {
        if (!keeps) {
            return finding(NONE);
        }
        realm.become(kept);
        return realm.day;
    }

    public int tear() {
        int was = keeps ? 1 : 0;
        keeps = false;
        return was;
    }

    public int count(int what) {
        switch (what) {
            case 0:
                return realm.day;
            case 1:
                return realm.birds;
            case 2:
                return realm.treasury;
            case 3:
                return realm.together(OWED);
            case 4:
                return realm.together(PAID);
            case 5:
                return tape.length;
            case 6:
                return realm.chance;
            case 7:
                return realm.spotsHeld();
            default:
                return finding(BEYOND);
        }
    }

    public int status(int which) {
        if (!within(which, -1, FINDINGS - 1)) {
            return finding(BEYOND);
        }
        if (which >= 0) {
            return found[which];
        }
        int all = 0;
        for (int i = 0; i < FINDINGS; i++) {
            all += found[i];
        }
        return all;
    }

    // ---- helpers

    private static boolean within(int v, int least, int most) {
        return v >= least && v <= most;
    }

    private int finding(int which) {
        found[which]++;
        return LOW - which;
    }

    private Sheet sheetOf(int s) {
        return within(s, 0, SHEETS - 1) ? sheets[s] : null;
    }

    private int paidWith(int bird, int what, int v, int n) {
        trial.become(realm);
        trial.traits[what][bird] = v;
        trial.passDays(n);
        return trial.paid[bird];
    }

    private boolean onlyTheseOwed(int set, int n) {
        trial.become(realm);
        for (int b = 0; b < trial.birds; b++) {
            if ((set >> b & 1) == 1) {
                trial.off[b] = 1;
            }
        }
        trial.passDays(n);
        return (trial.owedSet() & ~set) == 0;
    }

    private boolean arrearsAgree(Sheet told, int bird, int what, int v) {
        trial.become(realm);
        trial.traits[what][bird] = v;
        int asked = Math.min(told.length, ASKED_NUMBERS);
        for (int i = 0; i < asked; i++) {
            if (i > 0) {
                trial.passDays(QUARTER);
            }
            int number = told.numbers[i];
            if (number != ANY && number != trial.owed[bird]) {
                return false;
            }
        }
        return true;
    }

    // It is divided by the answer, so that is never 0.
    private static int commonDivisor(int a, int b) {
        int great = b;
        int small = a;
        for (int steps = 0; steps < 64 && small != 0; steps++) {
            int rest = great % small;
            great = small;
            small = rest;
        }
        return Math.max(1, great);
    }

    private static long power(long base, int n) {
        long product = 1;
        for (int i = 0; i < n; i++) {
            product *= base;
        }
        return product;
    }

    /** All that an image keeps; who asks of a bird here has asked before whether there is one. */
    private static final class Kingdom {
        // By kinds: how long each lives, and the kind that each is under.
        private static final int[] LIFE = {60, 80, 50, 100, 200, 9999, 100};
        private static final int[] UNDER = {-1, BIRD, BIRD, COCK, DUKE, BIRD, HEN};
        // By traits: the greatest value; a parent's depends on the bird.
        private static final int[] MOST = {6, 5, 0, 9999, 1, 1, 1, 9999, 9999};

        int day = 0;
        int treasury = 0;
        int chance = 1;
        int birds = 0;
        final int[] list = new int[PLACES];
        final int[] spots = new int[SPOTS];
        // A row for each trait, by birds; what is below are the same rows by their names.
        final int[][] traits = new int[TRAITS][MOST_BIRDS];
        final int[] kind = traits[KIND];
        final int[] loft = traits[LOFT];
        final int[] from = traits[FROM];
        final int[] age = traits[AGE];
        final int[] carried = traits[CARRIED];
        final int[] boy = traits[BOY];
        final int[] off = traits[OFF];
        final int[] owed = traits[OWED];
        final int[] paid = traits[PAID];

        Kingdom() {
            for (int i = 0; i < SPOTS; i++) {
                spots[i] = NOBODY;
            }
        }

        void become(Kingdom other) {
            day = other.day;
            treasury = other.treasury;
            chance = other.chance;
            birds = other.birds;
            System.arraycopy(other.list, 0, list, 0, PLACES);
            System.arraycopy(other.spots, 0, spots, 0, SPOTS);
            for (int what = 0; what < TRAITS; what++) {
                System.arraycopy(other.traits[what], 0, traits[what], 0, MOST_BIRDS);
            }
        }

        boolean has(int bird) {
            return bird >= 0 && bird < birds;
        }

        boolean isFull() {
            return birds >= MOST_BIRDS;
        }

        static boolean allows(int bird, int what, int v) {
            return what == FROM ? within(v, NOBODY, bird - 1) : within(v, 0, MOST[what]);
        }

        int add(int itsKind, int itsLoft, int itsParent) {
            int bird = birds;
            birds++;
            for (int what = 0; what < TRAITS; what++) {
                traits[what][bird] = 0;
            }
            kind[bird] = itsKind;
            loft[bird] = itsLoft;
            from[bird] = itsParent;
            return bird;
        }

        int tell(int bird, int what) {
            switch (what) {
                case LIVES:
                    return LIFE[kind[bird]];
                case RATE:
                    return rateOf(bird);
                case EATS:
                    return mealOf(bird);
                case LINE:
                    return lineSet() >> bird & 1;
                case DRAWS:
                    return drawSet(lineSet()) >> bird & 1;
                default:
                    return traits[what][bird];
            }
        }

        boolean isOfKind(int bird, int wanted) {
            int is = kind[bird];
            for (int steps = 0; steps < KINDS && is >= 0; steps++) {
                if (is == wanted) {
                    return true;
                }
                is = UNDER[is];
            }
            return false;
        }

        boolean isDead(int bird) {
            return age[bird] > LIFE[kind[bird]];
        }

        int deadSet() {
            int set = 0;
            for (int b = 0; b < birds; b++) {
                if (isDead(b)) {
                    set |= 1 << b;
                }
            }
            return set;
        }

        int loftSet(int where) {
            int set = 0;
            for (int b = 0; b < birds; b++) {
                if (loft[b] == where) {
                    set |= 1 << b;
                }
            }
            return set;
        }

        int owedSet() {
            int set = 0;
            for (int b = 0; b < birds; b++) {
                if (owed[b] > 0) {
                    set |= 1 << b;
                }
            }
            return set;
        }

        // A parent's number is less than its child's, so one way through the numbers is enough.
        int lineSet() {
            int set = 0;
            for (int b = 0; b < birds; b++) {
                int parent = from[b];
                if (carried[b] == 1 || parent >= 0 && (set >> parent & 1) == 1) {
                    set |= 1 << b;
                }
            }
            return set;
        }

        int issueSet(int bird) {
            int set = 1 << bird;
            for (int b = bird + 1; b < birds; b++) {
                int parent = from[b];
                if (parent >= 0 && (set >> parent & 1) == 1) {
                    set |= 1 << b;
                }
            }
            return set;
        }

        int carriersAbove(int bird) {
            int set = 0;
            int b = bird;
            for (int steps = 0; steps < MOST_BIRDS && b >= 0; steps++) {
                if (carried[b] == 1) {
                    set |= 1 << b;
                }
                b = from[b];
            }
            return set;
        }

        // The line stays the same while days go by, so who runs many asks for it once.
        int drawSet(int line) {
            int set = 0;
            for (int b = 0; b < birds; b++) {
                boolean entitled = boy[b] == 1 || (line >> b & 1) == 1 && !isDead(b);
                if (entitled && off[b] == 0) {
                    set |= 1 << b;
                }
            }
            return set;
        }

        int together(int what) {
            int sum = 0;
            for (int b = 0; b < birds; b++) {
                sum += traits[what][b];
            }
            return sum;
        }

        int ratesTogether() {
            int drawing = drawSet(lineSet());
            int sum = 0;
            for (int b = 0; b < birds; b++) {
                if ((drawing >> b & 1) == 1) {
                    sum += rateOf(b);
                }
            }
            return sum;
        }

        int spotsHeld() {
            int held = 0;
            for (int i = 0; i < SPOTS; i++) {
                if (spots[i] != NOBODY) {
                    held++;
                }
            }
            return held;
        }

        int rateOf(int bird) {
            switch (kind[bird]) {
                case HEN:
                    return 8;
                case WIDOW:
                    return 8 + 4 * livingChildren(bird);
                case COCK:
                    return cockRate(bird);
                case DUKE:
                    return 2 * cockRate(bird);
                case EAGLE:
                    return Math.max(5, 2 * cockRate(bird) - treasury / 10);
                case JACKDAW:
                    return 3;
                default:
                    return 10;
            }
        }

        private int cockRate(int bird) {
            int rate = 10;
            for (int b = 0; b < birds; b++) {
                if (loft[b] == loft[bird]) {
                    rate++;
                }
            }
            return rate;
        }

        private int livingChildren(int bird) {
            int children = 0;
            for (int b = bird + 1; b < birds; b++) {
                if (from[b] == bird && !isDead(b)) {
                    children++;
                }
            }
            return children;
        }

        // What it eats if it draws; who asks looks whether it does.
        int mealOf(int bird) {
            switch (kind[bird]) {
                case DUKE:
                    return 1;
                case EAGLE:
                    return 3;
                case JACKDAW:
                    return day % 2;
                default:
                    return 0;
            }
        }

        int drawOfChance() {
            chance = chance * 1103515245 + 12345;
            return chance >>> 8;
        }

        void passDays(int n) {
            int line = lineSet();
            for (int i = 0; i < n; i++) {
                passDay(line);
            }
        }

        void passDay(int line) {
            treasury = Math.min(MOST_CORN, treasury + list[day % PLACES]);
            treasury = Math.max(0, treasury - mealsTogether(drawSet(line)));
            growOlder();
            if (day % QUARTER == QUARTER - 1) {
                payQuarter(drawSet(line));
            }
            day = Math.min(MOST_DAY, day + 1);
        }

        private int mealsTogether(int drawing) {
            int sum = 0;
            for (int b = 0; b < birds; b++) {
                if ((drawing >> b & 1) == 1) {
                    sum += mealOf(b);
                }
            }
            return sum;
        }

        private void growOlder() {
            for (int b = 0; b < birds; b++) {
                age[b] = Math.min(MOST_OF_A_BIRD, age[b] + 1);
            }
        }

        private void payQuarter(int drawing) {
            for (int b = 0; b < birds; b++) {
                if ((drawing >> b & 1) == 1) {
                    // Each rate is asked in its turn: an eagle's depends on what those before it left.
                    int due = rateOf(b) + owed[b];
                    int gets = Math.min(due, treasury);
                    treasury -= gets;
                    paid[b] = Math.min(MOST_OF_A_BIRD, paid[b] + gets);
                    owed[b] = Math.min(MOST_OF_A_BIRD, due - gets);
                }
            }
        }
    }

    /** A row of numbers of 8, 16 or 32 bits; of none while it is missing. */
    private static final class Sheet {
        int bits = 0;
        int length = 0;
        final int[] numbers = new int[MOST_NUMBERS];

        boolean isMissing() {
            return bits == 0;
        }

        void begin(int newBits, int newLength) {
            bits = newBits;
            length = newLength;
            for (int i = 0; i < MOST_NUMBERS; i++) {
                numbers[i] = 0;
            }
        }

        // Numbers have signs, else no sheet of 8 or 16 bits could tell -1.
        void put(int i, int v) {
            numbers[i] = bits == 8 ? (byte) v : bits == 16 ? (short) v : v;
        }

        boolean hasRow(int from, int n) {
            return from >= 0 && n >= 0 && n <= length && from <= length - n;
        }
    }

    /** The bytes of a text, and the token at which its reading stands. */
    private static final class Tape {
        private static final int END = 0;
        private static final int WORD = 1;
        private static final int NUMBER = 2;
        private static final int SIGN = 3;
        private static final int NO_TOKEN = 4;
        private static final int FAULTY = -2;
        private static final int MOST_NUMBER = 9999;

        final int[] bytes = new int[MOST_BYTES];
        int length = 0;
        private int token = END;
        private int at = 0;
        private int behind = 0;
        private int value = 0;

        void append(int b) {
            if (length < MOST_BYTES) {
                bytes[length] = b;
                length++;
            }
        }

        // How many items came, or -1 less the fault: then the token that can't stand is the one at hand.
        int readInto(Kingdom kingdom) {
            behind = 0;
            step();
            for (int items = 1; items <= MOST_BYTES; items++) {
                if (!readItem(kingdom)) {
                    return -1 - at;
                }
                if (token == END) {
                    return items;
                }
                if (token != SIGN) {
                    return -1 - at;
                }
                step();
            }
            return -1 - at;
        }

        private void step() {
            at = behind;
            while (at < length && bytes[at] == ' ') {
                at++;
            }
            behind = at;
            value = 0;
            if (at >= length) {
                token = END;
            } else if (isLetter(bytes[at])) {
                token = WORD;
                while (behind < length && isLetter(bytes[behind])) {
                    behind++;
                }
            } else if (isDigit(bytes[at])) {
                token = NUMBER;
                while (behind < length && isDigit(bytes[behind])) {
                    // Held just above the greatest number, so that no row of digits wraps around.
                    value = Math.min(MOST_NUMBER + 1, value * 10 + bytes[behind] - '0');
                    behind++;
                }
            } else {
                token = bytes[at] == ';' ? SIGN : NO_TOKEN;
                behind++;
            }
        }

        private static boolean isLetter(int b) {
            return b >= 'a' && b <= 'z';
        }

        private static boolean isDigit(int b) {
            return b >= '0' && b <= '9';
        }

        private boolean isWord(String word) {
            if (token != WORD || behind - at != word.length()) {
                return false;
            }
            for (int i = 0; i < word.length(); i++) {
                if (bytes[at + i] != word.charAt(i)) {
                    return false;
                }
            }
            return true;
        }

        private boolean tookWord(String word) {
            if (!isWord(word)) {
                return false;
            }
            step();
            return true;
        }

        private int takeNumber(int most) {
            if (token != NUMBER || value > most) {
                return FAULTY;
            }
            int taken = value;
            step();
            return taken;
        }

        private int takeOptional(String word, int most, int without) {
            return tookWord(word) ? takeNumber(most) : without;
        }

        private boolean readItem(Kingdom kingdom) {
            int kind = kindAtHand();
            if (kind >= 0) {
                return readBird(kingdom, kind);
            }
            if (tookWord("harvest")) {
                return readHarvest(kingdom);
            }
            if (tookWord("corn")) {
                return readCorn(kingdom);
            }
            if (tookWord("strike")) {
                return readStrike(kingdom);
            }
            return false;
        }

        private int kindAtHand() {
            for (int kind = 0; kind < KINDS; kind++) {
                if (isWord(wordOf(kind))) {
                    return kind;
                }
            }
            return -1;
        }

        private static String wordOf(int kind) {
            switch (kind) {
                case HEN:
                    return "hen";
                case COCK:
                    return "cock";
                case DUKE:
                    return "duke";
                case EAGLE:
                    return "eagle";
                case JACKDAW:
                    return "jackdaw";
                case WIDOW:
                    return "widow";
                default:
                    return "bird";
            }
        }

        private boolean readBird(Kingdom kingdom, int kind) {
            if (kingdom.isFull()) {
                return false;
            }
            step();
            int loft = takeOptional("loft", MOST_LOFT, 0);
            if (loft == FAULTY) {
                return false;
            }
            int from = takeOptional("from", kingdom.birds - 1, NOBODY);
            if (from == FAULTY) {
                return false;
            }
            int age = takeOptional("aged", MOST_OF_A_BIRD, 0);
            if (age == FAULTY) {
                return false;
            }
            int bird = kingdom.add(kind, loft, from);
            kingdom.age[bird] = age;
            kingdom.carried[bird] = tookWord("carried") ? 1 : 0;
            kingdom.boy[bird] = tookWord("boy") ? 1 : 0;
            return true;
        }

        private boolean readHarvest(Kingdom kingdom) {
            int place = takeNumber(PLACES - 1);
            if (place == FAULTY) {
                return false;
            }
            int v = takeNumber(MOST_HARVEST);
            if (v == FAULTY) {
                return false;
            }
            kingdom.list[place] = v;
            return true;
        }

        private boolean readCorn(Kingdom kingdom) {
            int v = takeNumber(MOST_NUMBER);
            if (v == FAULTY) {
                return false;
            }
            kingdom.treasury = v;
            return true;
        }

        private boolean readStrike(Kingdom kingdom) {
            int bird = takeNumber(kingdom.birds - 1);
            if (bird == FAULTY) {
                return false;
            }
            kingdom.off[bird] = 1;
            return true;
        }
    }
}
