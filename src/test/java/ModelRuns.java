import java.util.ArrayList;
import java.util.List;
import java.util.Random;
import java.util.regex.Matcher;
import java.util.regex.Pattern;

/**
 * Long runs of calls, each answer beside that of a model written from the document's words anew
 * (objects for birds, sets tried one by one, texts by patterns), slow where the program is quick.
 */
public final class ModelRuns {
    private static final int RUNS = 400;
    private static final int CALLS = 512;
    private static final int LOW = -1000001;
    private static final String[] WORDS = {"bird", "hen", "cock", "duke", "eagle", "jackdaw", "widow"};

    static final class Bird {
        int number;
        int kind;
        int loft;
        Bird parent;
        int age;
        boolean carried;
        boolean boy;
        boolean off;
        int owed;
        int paid;
    }

    static final class Land {
        int day = 0;
        int corn = 0;
        int z = 1;
        int[] list = new int[6];
        List<Bird> birds = new ArrayList<>();
        Bird[] spots = new Bird[10];

        Land twin() {
            Land t = new Land();
            t.day = day;
            t.corn = corn;
            t.z = z;
            t.list = list.clone();
            for (Bird b : birds) {
                Bird c = new Bird();
                c.number = b.number;
                c.kind = b.kind;
                c.loft = b.loft;
                c.parent = b.parent == null ? null : t.birds.get(b.parent.number);
                c.age = b.age;
                c.carried = b.carried;
                c.boy = b.boy;
                c.off = b.off;
                c.owed = b.owed;
                c.paid = b.paid;
                t.birds.add(c);
            }
            for (int i = 0; i < 10; i++) {
                t.spots[i] = spots[i] == null ? null : t.birds.get(spots[i].number);
            }
            return t;
        }

        static int lives(int kind) {
            switch (kind) {
                case 1: return lives(0) + 20;
                case 2: return lives(0) - 10;
                case 3: return 2 * lives(2);
                case 4: return lives(3) + 100;
                case 5: return 9999;
                case 6: return lives(1) + 20;
                default: return 60;
            }
        }

        static boolean dead(Bird b) {
            return b.age > lives(b.kind);
        }

        static boolean line(Bird b) {
            return b.carried || b.parent != null && line(b.parent);
        }

        static boolean draws(Bird b) {
            return !b.off && (line(b) && !dead(b) || b.boy);
        }

        int rate(Bird b, int kind) {
            switch (kind) {
                case 1: return rate(b, 0) - 2;
                case 2: return (int) (rate(b, 0) + birds.stream().filter(c -> c.loft == b.loft).count());
                case 3: return 2 * rate(b, 2);
                case 4: return Math.max(5, rate(b, 3) - corn / 10);
                case 5: return 3;
                case 6: return (int) (rate(b, 1) + 4 * birds.stream().filter(c -> c.parent == b && !dead(c)).count());
                default: return 10;
            }
        }

        int eats(int kind) {
            switch (kind) {
                case 3: return 1;
                case 4: return eats(3) + 2;
                case 5: return day % 2 == 1 ? 1 : 0;
                default: return 0;
            }
        }

        Land pass(int n) {
            for (int i = 0; i < n; i++) {
                corn = Math.min(99999, corn + list[day % 6]);
                corn = Math.max(0, corn - birds.stream().filter(Land::draws).mapToInt(b -> eats(b.kind)).sum());
                birds.forEach(b -> b.age = Math.min(9999, b.age + 1));
                if (day % 6 == 5) {
                    for (Bird b : birds) {
                        if (draws(b)) {
                            int due = rate(b, b.kind) + b.owed;
                            int gets = Math.min(corn, due);
                            corn -= gets;
                            b.paid = Math.min(9999, b.paid + gets);
                            b.owed = Math.min(9999, due - gets);
                        }
                    }
                }
                day = Math.min(99999, day + 1);
            }
            return this;
        }

        int draw() {
            z = z * 1103515245 + 12345;
            return z >>> 8;
        }

        int owedAll() {
            return birds.stream().mapToInt(b -> b.owed).sum();
        }

        int paidAll() {
            return birds.stream().mapToInt(b -> b.paid).sum();
        }

        int add(int kind, int loft, Bird parent) {
            Bird b = new Bird();
            b.number = birds.size();
            b.kind = kind;
            b.loft = loft;
            b.parent = parent;
            birds.add(b);
            return b.number;
        }

        int tell(int bird, int what) {
            Bird b = birds.get(bird);
            switch (what) {
                case 0: return b.kind;
                case 1: return b.loft;
                case 2: return b.parent == null ? -1 : b.parent.number;
                case 3: return b.age;
                case 4: return b.carried ? 1 : 0;
                case 5: return b.boy ? 1 : 0;
                case 6: return b.off ? 1 : 0;
                case 7: return b.owed;
                case 8: return b.paid;
                case 9: return lives(b.kind);
                case 10: return rate(b, b.kind);
                case 11: return eats(b.kind);
                case 12: return line(b) ? 1 : 0;
                default: return draws(b) ? 1 : 0;
            }
        }

        void put(int bird, int what, int v) {
            Bird b = birds.get(bird);
            switch (what) {
                case 0: b.kind = v; break;
                case 1: b.loft = v; break;
                case 2: b.parent = v < 0 ? null : birds.get(v); break;
                case 3: b.age = v; break;
                case 4: b.carried = v == 1; break;
                case 5: b.boy = v == 1; break;
                case 6: b.off = v == 1; break;
                case 7: b.owed = v; break;
                default: b.paid = v; break;
            }
        }

        Land with(int bird, int what, int v) {
            Land t = twin();
            t.put(bird, what, v);
            return t;
        }
    }

    static final class Row {
        int bits;
        int[] numbers;
    }

    /** The model: calls by number, arguments in a row; each finding by its name's place. */
    static final class Model {
        Land land = new Land();
        Land kept = null;
        StringBuilder tape = new StringBuilder();
        Row[] rows = new Row[4];
        int[] found = new int[7];

        long finding(int which) {
            found[which]++;
            return LOW - which;
        }

        boolean has(int b) {
            return b >= 0 && b < land.birds.size();
        }

        static boolean in(int v, int least, int most) {
            return v >= least && v <= most;
        }

        int set(java.util.function.Predicate<Bird> p) {
            int s = 0;
            for (Bird b : land.birds) {
                if (p.test(b)) {
                    s += 1 << b.number;
                }
            }
            return s;
        }

        long answer(String call, int[] a) {
            switch (call) {
                case "harvest":
                    if (!in(a[0], 0, 5) || !in(a[1], 0, 99)) return finding(0);
                    int h = land.list[a[0]];
                    land.list[a[0]] = a[1];
                    return h;
                case "listed":
                    return in(a[0], 0, 5) ? land.list[a[0]] : finding(0);
                case "corn":
                    if (!in(a[0], 0, 99999)) return finding(0);
                    int c = land.corn;
                    land.corn = a[0];
                    return c;
                case "bird":
                    if (!in(a[0], 0, 6) || !in(a[1], 0, 5)) return finding(0);
                    return land.birds.size() == 8 ? finding(1) : land.add(a[0], a[1], null);
                case "hatch":
                    if (!has(a[0]) || !in(a[1], 0, 6)) return finding(0);
                    if (land.birds.size() == 8) return finding(1);
                    Bird p = land.birds.get(a[0]);
                    return Land.dead(p) ? finding(4) : land.add(a[1], p.loft, p);
                case "of":
                    return has(a[0]) && in(a[1], 0, 13) ? land.tell(a[0], a[1]) : finding(0);
                case "change":
                    return change(a[0], a[1], a[2]);
                case "loft":
                    return in(a[0], 0, 5) ? set(b -> b.loft == a[0]) : finding(0);
                case "issue":
                    return has(a[0]) ? set(b -> comesFrom(b, a[0])) : finding(0);
                case "go":
                    return in(a[0], 1, 60) ? land.pass(a[0]).corn : finding(0);
                case "now":
                    return now(a[0]);
                case "ahead":
                    if (!has(a[0]) || a[1] != 7 && a[1] != 8 && a[1] != 10 && a[1] != 13) return finding(0);
                    return in(a[2], 0, 100) ? land.twin().pass(a[2]).tell(a[0], a[1]) : finding(0);
                case "budget":
                    return in(a[0], 0, 100) ? land.twin().pass(a[0]).corn : finding(0);
                case "dies":
                    return has(a[0]) ? first(l -> Land.dead(l.birds.get(a[0]))) : finding(0);
                case "fails":
                    return first(l -> l.owedAll() > 0);
                case "when":
                    if (!has(a[0]) || !in(a[1], 0, 9999)) return finding(0);
                    return first(l -> l.birds.get(a[0]).paid >= a[1]);
                case "ends":
                    return first(l -> l.birds.stream().noneMatch(Land::draws));
                default:
                    return search(call, a);
            }
        }

        long change(int bird, int what, int v) {
            int[] most = {6, 5, bird - 1, 9999, 1, 1, 1, 9999, 9999};
            if (!has(bird) || !in(what, 0, 8) || !in(v, what == 2 ? -1 : 0, most[what])) {
                return finding(0);
            }
            int was = land.tell(bird, what);
            land.put(bird, what, v);
            return was;
        }

        static boolean comesFrom(Bird b, int bird) {
            return b.number == bird || b.parent != null && comesFrom(b.parent, bird);
        }

        long now(int what) {
            switch (what) {
                case 0: return land.day;
                case 1: return land.corn;
                case 2: return set(Land::draws);
                case 3: return set(Land::dead);
                case 4: return land.owedAll();
                case 5: return land.birds.stream().filter(Land::draws).mapToInt(b -> land.rate(b, b.kind)).sum();
                case 6: return set(Land::line);
                case 7: return land.paidAll();
                default: return finding(0);
            }
        }

        long first(java.util.function.Predicate<Land> p) {
            for (int d = 0; d <= 200; d++) {
                if (p.test(land.twin().pass(d))) {
                    return d;
                }
            }
            return finding(3);
        }

        long search(String call, int[] a) {
            switch (call) {
                case "harvestFor":
                    if (!in(a[0], 0, 5) || !in(a[1], 0, 60)) return finding(0);
                    for (int v = 0; v < 100; v++) {
                        Land t = land.twin();
                        t.list[a[0]] = v;
                        if (t.pass(a[1]).owedAll() == 0) return v;
                    }
                    return finding(3);
                case "kindFor":
                    if (!has(a[0]) || !in(a[1], 0, 60)) return finding(0);
                    return best(a[0], 0, new int[] {0, 1, 2, 3, 4, 5, 6}, a[1]);
                case "parentFor":
                    if (!has(a[0]) || !in(a[1], 0, 60)) return finding(0);
                    int[] parents = new int[a[0] + 1];
                    for (int i = 0; i < a[0]; i++) parents[i] = i;
                    parents[a[0]] = -1;
                    return best(a[0], 2, parents, a[1]);
                case "strike":
                    return in(a[0], 0, 24) ? fewest(m -> strikes(m, a[0])) : finding(0);
                case "deny":
                    return has(a[0]) ? fewest(m -> denies(m, a[0])) : finding(0);
                case "fits":
                case "kinds":
                    if (!in(a[0], 0, 3)) return finding(0);
                    if (rows[a[0]] == null) return finding(5);
                    if (!has(a[1])) return finding(0);
                    int n = 0;
                    int s = 0;
                    for (int v = 0; v < 100; v++) n += agrees(rows[a[0]], a[1], 3, v) ? 1 : 0;
                    for (int v = 0; v < 7; v++) s += agrees(rows[a[0]], a[1], 0, v) ? 1 << v : 0;
                    return call.equals("fits") ? n : s;
                case "hatchings":
                    return in(a[0], 1, 20) ? hatchings(a[0]) : finding(0);
                case "odds":
                    if (!has(a[0]) || !in(a[1], 0, 9) || !in(a[2], 0, 1)) return finding(0);
                    return odds(land.birds.get(a[0]), a[1], a[2]);
                case "seed":
                    int was = land.z;
                    land.z = a[0];
                    return was;
                default:
                    return store(call, a);
            }
        }

        long best(int bird, int what, int[] choices, int n) {
            int best = choices[0];
            int most = -1;
            for (int v : choices) {
                int paid = land.with(bird, what, v).pass(n).birds.get(bird).paid;
                if (paid > most) {
                    most = paid;
                    best = v;
                }
            }
            return best;
        }

        long fewest(java.util.function.IntPredicate p) {
            int best = -1;
            for (int m = 0; m < 1 << land.birds.size(); m++) {
                if ((best < 0 || Integer.bitCount(m) < Integer.bitCount(best)) && p.test(m)) {
                    best = m;
                }
            }
            return best < 0 ? finding(3) : best;
        }

        boolean strikes(int m, int n) {
            Land t = land.twin();
            t.birds.forEach(b -> b.off |= (m >> b.number & 1) == 1);
            t.pass(n);
            return t.birds.stream().allMatch(b -> (m >> b.number & 1) == 1 || b.owed == 0);
        }

        boolean denies(int m, int bird) {
            Land t = land.twin();
            t.birds.forEach(b -> b.carried &= (m >> b.number & 1) == 0);
            return !Land.line(t.birds.get(bird));
        }

        boolean agrees(Row row, int bird, int what, int v) {
            Land t = land.with(bird, what, v);
            for (int i = 0; i < row.numbers.length && i < 10; i++) {
                if (row.numbers[i] != -1 && row.numbers[i] != t.birds.get(bird).owed) {
                    return false;
                }
                t.pass(6);
            }
            return true;
        }

        long hatchings(int n) {
            for (int i = 0; i < n; i++) {
                land.list[land.day % 6] = land.draw() % 100;
                int b = land.draw() % 8;
                if (has(b)) {
                    land.birds.get(b).boy ^= true;
                }
                land.pass(1);
            }
            return land.corn;
        }

        long odds(Bird b, int n, int what) {
            int due = land.rate(b, b.kind) + b.owed;
            long above = 1;
            long below = 1;
            for (int i = 0; i < n; i++) {
                above *= java.util.stream.IntStream.range(0, 100).filter(v -> v >= due).count();
                below *= 100;
            }
            long common = java.math.BigInteger.valueOf(above).gcd(java.math.BigInteger.valueOf(below)).longValue();
            return what == 0 ? above / common : below / common;
        }

        long store(String call, int[] a) {
            switch (call) {
                case "feed":
                    if (!in(a[1], 1, 4)) return finding(0);
                    if (tape.length() + a[1] > 120) return finding(1);
                    for (int i = a[1] - 1; i >= 0; i--) tape.append((char) (a[0] >> 8 * i & 255));
                    return tape.length();
                case "wipe":
                    int had = tape.length();
                    tape.setLength(0);
                    return had;
                case "text":
                    String t = tape.toString();
                    tape.setLength(0);
                    return new Reading(t).into(this);
                case "hold":
                    if (!in(a[0], 0, 9) || a[1] != -1 && !has(a[1])) return finding(0);
                    land.spots[a[0]] = a[1] < 0 ? null : land.birds.get(a[1]);
                    return 1;
                case "as":
                    if (!in(a[0], 0, 9) || !in(a[1], 0, 6)) return finding(0);
                    Bird b = land.spots[a[0]];
                    return b == null ? finding(5) : isA(b.kind, a[1]) ? b.number : finding(2);
                case "image":
                    kept = land.twin();
                    return 1;
                case "undo":
                    if (kept == null) return finding(3);
                    land = kept.twin();
                    return land.day;
                case "tear":
                    int was = kept == null ? 0 : 1;
                    kept = null;
                    return was;
                case "count":
                    return count(a[0]);
                case "status":
                    if (!in(a[0], -1, 6)) return finding(0);
                    return a[0] >= 0 ? found[a[0]] : java.util.Arrays.stream(found).sum();
                default:
                    return paper(call, a);
            }
        }

        static boolean isA(int is, int kind) {
            int[] under = {-1, 0, 0, 2, 3, 0, 1};
            return is == kind || is >= 0 && isA(under[is], kind);
        }

        long count(int what) {
            switch (what) {
                case 0: return land.day;
                case 1: return land.birds.size();
                case 2: return land.corn;
                case 3: return land.owedAll();
                case 4: return land.paidAll();
                case 5: return tape.length();
                case 6: return land.z;
                case 7: return java.util.Arrays.stream(land.spots).filter(b -> b != null).count();
                default: return finding(0);
            }
        }

        long paper(String call, int[] a) {
            if (!in(a[0], 0, 3)) return finding(0);
            Row row = rows[a[0]];
            if (call.equals("sheet")) {
                if (a[1] != 0 && a[1] != 8 && a[1] != 16 && a[1] != 32) return finding(0);
                if (a[2] < 0) return finding(6);
                if (a[2] > 40) return finding(0);
                rows[a[0]] = a[1] == 0 ? null : new Row();
                if (a[1] == 0) return 0;
                rows[a[0]].bits = a[1];
                rows[a[0]].numbers = new int[a[2]];
                return a[2];
            }
            if (call.equals("copy")) {
                if (!in(a[2], 0, 3)) return finding(0);
                Row other = rows[a[2]];
                if (row == null || other == null) return finding(5);
                if (row.bits != other.bits) return finding(2);
                boolean fits = a[1] >= 0 && a[3] >= 0 && a[4] >= 0
                    && (long) a[1] + a[4] <= row.numbers.length && (long) a[3] + a[4] <= other.numbers.length;
                if (!fits) return finding(0);
                int[] were = row.numbers.clone();
                for (int i = 0; i < a[4]; i++) other.numbers[a[3] + i] = were[a[1] + i];
                return a[4];
            }
            if (row == null) return finding(5);
            if (call.equals("write")) {
                if (!in(a[1], 0, row.numbers.length - 1)) return finding(0);
                row.numbers[a[1]] = a[2] << 32 - row.bits >> 32 - row.bits;
                return 1;
            }
            int n = row.numbers.length;
            if (call.equals("load")) {
                int came = 0;
                for (; came < 6 && came < n && in(row.numbers[came], 0, 99); came++) land.list[came] = row.numbers[came];
                return came;
            }
            for (int i = 0; i < n; i++) {
                if (!has(i) || land.birds.get(i).owed != row.numbers[i]) return 1 + i;
            }
            return 0;
        }
    }

    /** Tokens first, all of them; then the grammar over these. */
    static final class Reading {
        private static final Pattern TOKEN = Pattern.compile(" *(?:([a-z]+)|([0-9]+)|(;)|([^ ]))", Pattern.DOTALL);
        final List<String> tokens = new ArrayList<>();
        final List<Integer> places = new ArrayList<>();
        final int length;
        int next = 0;
        Land land;

        Reading(String text) {
            length = text.length();
            Matcher m = TOKEN.matcher(text);
            while (m.lookingAt()) {
                for (int g = 1; g <= 4; g++) {
                    if (m.group(g) != null) {
                        tokens.add(m.group(g));
                        places.add(m.start(g));
                    }
                }
                m.region(m.end(), length);
            }
        }

        String at() {
            return next < tokens.size() ? tokens.get(next) : "";
        }

        long into(Model model) {
            land = model.land.twin();
            int items = 0;
            boolean more = true;
            while (more) {
                if (!item()) {
                    return -1 - (next < tokens.size() ? places.get(next) : length);
                }
                items++;
                more = next < tokens.size();
                if (more && !at().equals(";")) {
                    return -1 - places.get(next);
                }
                next++;
            }
            model.land = land;
            return items;
        }

        boolean took(String word) {
            boolean is = at().equals(word);
            next += is ? 1 : 0;
            return is;
        }

        int number(int most) {
            if (!at().matches("[0-9]+") || new java.math.BigInteger(at()).compareTo(java.math.BigInteger.valueOf(most)) > 0) {
                return -9;
            }
            return Integer.parseInt(tokens.get(next++).replaceFirst("^0+(?=.)", ""));
        }

        boolean item() {
            int kind = java.util.Arrays.asList(WORDS).indexOf(at());
            if (kind >= 0) {
                return bird(kind);
            }
            if (took("harvest")) {
                int i = number(5);
                int v = i < 0 ? -9 : number(99);
                if (v >= 0) land.list[i] = v;
                return v >= 0;
            }
            if (took("corn")) {
                int v = number(9999);
                if (v >= 0) land.corn = v;
                return v >= 0;
            }
            if (took("strike")) {
                int b = number(land.birds.size() - 1);
                if (b >= 0) land.birds.get(b).off = true;
                return b >= 0;
            }
            return false;
        }

        boolean bird(int kind) {
            if (land.birds.size() == 8) {
                return false;
            }
            next++;
            int loft = took("loft") ? number(5) : 0;
            if (loft < 0) return false;
            int from = took("from") ? number(land.birds.size() - 1) : -1;
            if (from == -9) return false;
            int age = took("aged") ? number(9999) : 0;
            if (age < 0) return false;
            Bird b = land.birds.get(land.add(kind, loft, from < 0 ? null : land.birds.get(from)));
            b.age = age;
            b.carried = took("carried");
            b.boy = took("boy");
            return true;
        }
    }

    private static final String[] CALLS_BY_NAME = {
        "harvest", "listed", "corn", "bird", "hatch", "of", "change", "loft", "issue", "go", "now", "ahead",
        "budget", "dies", "fails", "when", "ends", "harvestFor", "kindFor", "parentFor", "strike", "deny",
        "fits", "kinds", "hatchings", "odds", "seed", "feed", "wipe", "text", "hold", "as", "sheet", "write",
        "copy", "load", "judge", "image", "undo", "tear", "count", "status",
    };

    // How often each comes: the dear ones seldom, the changing ones often.
    private static final int[] OFTEN = {
        12, 4, 10, 6, 14, 40, 60, 4, 6, 16, 16, 12,
        6, 6, 4, 6, 3, 4, 6, 6, 4, 4,
        2, 3, 3, 8, 3, 4, 1, 4, 8, 8, 10, 20,
        8, 5, 6, 3, 4, 1, 12, 6,
    };

    private static long ask(PigeonRolls x, String call, int[] a) {
        switch (call) {
            case "harvest": return x.harvest(a[0], a[1]);
            case "listed": return x.listed(a[0]);
            case "corn": return x.corn(a[0]);
            case "bird": return x.bird(a[0], a[1]);
            case "hatch": return x.hatch(a[0], a[1]);
            case "of": return x.of(a[0], a[1]);
            case "change": return x.change(a[0], a[1], a[2]);
            case "loft": return x.loft(a[0]);
            case "issue": return x.issue(a[0]);
            case "go": return x.go(a[0]);
            case "now": return x.now(a[0]);
            case "ahead": return x.ahead(a[0], a[1], a[2]);
            case "budget": return x.budget(a[0]);
            case "dies": return x.dies(a[0]);
            case "fails": return x.fails();
            case "when": return x.when(a[0], a[1]);
            case "ends": return x.ends();
            case "harvestFor": return x.harvestFor(a[0], a[1]);
            case "kindFor": return x.kindFor(a[0], a[1]);
            case "parentFor": return x.parentFor(a[0], a[1]);
            case "strike": return x.strike(a[0]);
            case "deny": return x.deny(a[0]);
            case "fits": return x.fits(a[0], a[1]);
            case "kinds": return x.kinds(a[0], a[1]);
            case "hatchings": return x.hatchings(a[0]);
            case "odds": return x.odds(a[0], a[1], a[2]);
            case "seed": return x.seed(a[0]);
            case "feed": return x.feed(a[0], a[1]);
            case "wipe": return x.wipe();
            case "text": return x.text();
            case "hold": return x.hold(a[0], a[1]);
            case "as": return x.as(a[0], a[1]);
            case "sheet": return x.sheet(a[0], a[1], a[2]);
            case "write": return x.write(a[0], a[1], a[2]);
            case "copy": return x.copy(a[0], a[1], a[2], a[3], a[4]);
            case "load": return x.load(a[0]);
            case "judge": return x.judge(a[0]);
            case "image": return x.image();
            case "undo": return x.undo();
            case "tear": return x.tear();
            case "count": return x.count(a[0]);
            default: return x.status(a[0]);
        }
    }

    private final Random random;
    private final Model model = new Model();
    private final PigeonRolls program = new PigeonRolls();
    private final List<String> calls = new ArrayList<>();

    private ModelRuns(long seed) {
        random = new Random(seed);
    }

    private int upTo(int most) {
        return random.nextInt(most + 1);
    }

    private int one(int... values) {
        return values[random.nextInt(values.length)];
    }

    private int anyBird() {
        int n = model.land.birds.size();
        return n == 0 || upTo(40) == 0 ? upTo(8) : upTo(n - 1);
    }

    private int traitValue(int bird, int what) {
        switch (what) {
            case 0: return upTo(6);
            case 1: return upTo(2);
            case 2: return upTo(Math.max(0, Math.min(7, bird))) - 1;
            case 3: return one(upTo(210), upTo(99), 9999, 50, 60, 80, 100);
            case 7: return one(0, 0, 0, upTo(30), upTo(9999));
            case 8: return one(0, upTo(30), upTo(9999), 9990);
            default: return upTo(1);
        }
    }

    private int[] arguments(String call) {
        int b = anyBird();
        switch (call) {
            case "harvest": return new int[] {upTo(5), one(0, 0, upTo(8), upTo(25), upTo(99))};
            case "listed": return new int[] {upTo(5)};
            case "corn": return new int[] {one(0, 0, upTo(20), upTo(50), upTo(100), upTo(400), upTo(99999), 99990)};
            case "bird": return new int[] {upTo(6), upTo(2)};
            case "hatch": return new int[] {b, upTo(6)};
            case "of": return new int[] {b, upTo(13)};
            case "change":
                int what = one(0, 1, 2, 3, 4, 4, 5, 6, 7, 8);
                return new int[] {b, what, traitValue(b, what)};
            case "loft": return new int[] {upTo(5)};
            case "issue": case "dies": case "deny": return new int[] {b};
            case "go": return new int[] {one(1, upTo(6), upTo(60))};
            case "now": case "count": return new int[] {upTo(7)};
            case "ahead": return new int[] {b, one(7, 8, 10, 13), upTo(100)};
            case "budget": return new int[] {upTo(100)};
            case "when": return new int[] {b, one(upTo(100), upTo(1000), upTo(9999))};
            case "harvestFor": return new int[] {upTo(5), upTo(60)};
            case "kindFor": case "parentFor": return new int[] {b, upTo(60)};
            case "strike": return new int[] {upTo(24)};
            case "fits": case "kinds": return new int[] {upTo(3), b};
            case "hatchings": return new int[] {1 + upTo(5)};
            case "odds": return new int[] {b, upTo(9), upTo(1)};
            case "seed": return new int[] {random.nextInt()};
            case "feed": return new int[] {random.nextInt(), 1 + upTo(3)};
            case "hold": return new int[] {upTo(9), one(-1, b, b)};
            case "as": return new int[] {upTo(9), upTo(6)};
            case "sheet": return new int[] {upTo(3), one(0, 8, 8, 8, 16, 32), one(upTo(12), upTo(40))};
            case "write": return new int[] {upTo(3), upTo(11), one(-1, 0, upTo(99), told(b), random.nextInt())};
            case "copy": return new int[] {upTo(3), upTo(8), upTo(3), upTo(8), upTo(12)};
            case "load": case "judge": return new int[] {upTo(3)};
            case "status": return new int[] {upTo(7) - 1};
            default: return new int[] {};
        }
    }

    // What a bird will be owed, so that sheets fit at times.
    private int told(int b) {
        return model.has(b) ? model.land.twin().pass(6 * upTo(4)).birds.get(b).owed : 0;
    }

    private void spoil(int[] a) {
        if (a.length > 0 && upTo(25) == 0) {
            int i = upTo(a.length - 1);
            a[i] = one(-1, -2, a[i] + 1, a[i] + 100, 7, 8, 41, 101, Integer.MIN_VALUE, Integer.MAX_VALUE, random.nextInt());
        }
    }

    private boolean same(String call, int[] a) {
        long want = model.answer(call, a);
        long got = ask(program, call, a);
        calls.add(call + java.util.Arrays.toString(a) + " = " + got);
        if (got == want) {
            return true;
        }
        System.out.println("due was " + want + " for the last of these:");
        calls.forEach(System.out::println);
        return false;
    }

    private String someText() {
        StringBuilder t = new StringBuilder();
        int items = 1 + upTo(5);
        for (int i = 0; i < items; i++) {
            t.append(i == 0 ? "" : one(0, 1) == 0 ? ";" : " ; ").append(someItem());
        }
        if (upTo(3) == 0) {
            int i = upTo(t.length() - 1);
            String[] odd = {"", " ", ";", "7", "x", "#", "\u00e9", " boy", " loft 2", "99999"};
            t.replace(i, Math.min(t.length(), i + upTo(2)), odd[upTo(odd.length - 1)]);
        }
        return t.length() > 120 ? t.substring(0, 120) : t.toString();
    }

    private String someItem() {
        int n = model.land.birds.size();
        switch (upTo(5)) {
            case 0: return "harvest " + upTo(5) + " " + upTo(99);
            case 1: return "corn " + upTo(300);
            case 2: return "strike " + upTo(Math.max(0, n - 1));
            default:
                return WORDS[upTo(6)] + (upTo(1) == 0 ? " loft " + upTo(5) : "")
                    + (n > 0 && upTo(1) == 0 ? " from " + upTo(n) : "")
                    + (upTo(1) == 0 ? " aged 0" + upTo(120) : "")
                    + (upTo(1) == 0 ? " carried" : "") + (upTo(3) == 0 ? " boy" : "");
        }
    }

    private boolean feedText() {
        boolean good = same("wipe", new int[] {});
        String t = someText();
        for (int i = 0; good && i < t.length(); i += 4) {
            int n = Math.min(4, t.length() - i);
            int bytes = 0;
            for (int k = 0; k < n; k++) {
                bytes = bytes << 8 | t.charAt(i + k);
            }
            good = same("feed", new int[] {bytes, n});
        }
        return good;
    }

    private boolean tellArrears() {
        if (!same("corn", new int[] {upTo(60)})) {
            return false;
        }
        int b = anyBird();
        int s = upTo(3);
        int n = 1 + upTo(10);
        boolean good = same("sheet", new int[] {s, one(8, 16, 32), n});
        for (int i = 0; good && i < n; i++) {
            int owed = model.has(b) ? model.land.twin().pass(6 * i).birds.get(b).owed : 0;
            good = same("write", new int[] {s, i, one(-1, owed, owed)});
        }
        return good && same("fits", new int[] {s, b}) && same("kinds", new int[] {s, b}) && same("judge", new int[] {s});
    }

    // A poor kingdom with birds, so that many calls have something to tell from the first.
    private boolean settle() {
        boolean good = true;
        int n = upTo(8);
        for (int i = 0; good && i < n; i++) {
            good = same("bird", new int[] {upTo(6), upTo(2)})
                && same("change", new int[] {i, 2, upTo(i) - 1})
                && same("change", new int[] {i, 3, upTo(70)})
                && same("change", new int[] {i, 4, upTo(1)})
                && same("hold", new int[] {i, i});
        }
        return good && same("image", new int[] {});
    }

    private boolean run() {
        int sum = java.util.Arrays.stream(OFTEN).sum();
        if (!settle()) {
            return false;
        }
        while (calls.size() < CALLS - 40) {
            if (upTo(90) == 0 && !tellArrears()) {
                return false;
            }
            int at = random.nextInt(sum);
            int i = 0;
            while (at >= OFTEN[i]) {
                at -= OFTEN[i++];
            }
            String call = CALLS_BY_NAME[i];
            if (call.equals("text") && !feedText()) {
                return false;
            }
            int[] a = arguments(call);
            spoil(a);
            if (!same(call, a)) {
                return false;
            }
        }
        return true;
    }

    public static void main(String[] args) {
        long asked = 0;
        for (int seed = 1; seed <= RUNS; seed++) {
            ModelRuns r = new ModelRuns(seed);
            if (!r.run()) {
                System.out.println("run " + seed + " went wrong");
                System.exit(1);
            }
            asked += r.calls.size();
        }
        System.out.println(RUNS + " runs, " + asked + " answers as the model's");
    }
}
