import java.lang.reflect.InvocationTargetException;
import java.lang.reflect.Method;
import java.nio.charset.StandardCharsets;
import java.nio.file.Files;
import java.nio.file.Path;
import java.util.ArrayList;
import java.util.Arrays;
import java.util.HashMap;
import java.util.LinkedHashSet;
import java.util.List;
import java.util.Map;
import java.util.Set;

/**
 * For each sentence of the document that names a boundary a test of its own: the last number that is allowed and the
 * first that isn't, at both ends; the empty and the full; the ends of int; findings in the order of the words; and that
 * a call which answers a finding changes nothing but status().
 */
public final class EdgeTests {
    private static final int LOW = -1000001;
    private static final int BEYOND = LOW;
    private static final int FULL = LOW - 1;
    private static final int KIND = LOW - 2;
    private static final int NONE = LOW - 3;
    private static final int STATE = LOW - 4;
    private static final int MISSING = LOW - 5;
    private static final int SIZE = LOW - 6;
    private static final int MOST_CALLS = 512;
    private static final int[] LIVES = {60, 80, 50, 100, 200, 9999, 100};
    private static final String[] WORDS = {"bird", "hen", "cock", "duke", "eagle", "jackdaw", "widow"};
    private static final Map<String, Method> CALLS = new HashMap<>();

    // A kingdom in which every part of the state is told: four birds, sheets of all bits but one, tape, spots, image.
    private static final String[] RICH = {
        "bird 1 1", "change 0 4 1", "hatch 0 2", "bird 6 2", "hatch 2 4", "change 1 3 7", "change 3 5 1", "change 2 6 1",
        "change 1 7 12", "change 0 8 34", "corn 57", "harvest 0 11", "harvest 1 12", "harvest 2 13", "harvest 3 14",
        "harvest 4 15", "harvest 5 16", "hold 0 0", "hold 9 3", "hold 4 1", "sheet 0 8 3", "write 0 0 41", "write 0 1 42",
        "write 0 2 43", "sheet 1 16 2", "write 1 0 51", "write 1 1 52", "sheet 2 32 1", "write 2 0 61", "seed 4242",
        "image", "go 2", "change 1 7 13", "corn 70", "harvest 2 77", "tape corn 31;hen loft 3",
    };

    private static String sentence = "";
    private static String document = null;
    private static final Set<Integer> PROMISES = new LinkedHashSet<>();
    private static int sentences = 0;
    private static int asked = 0;
    private static int wrong = 0;

    /** One object and how many calls it has had; it is promised for 512, and no test here but those of "far" asks more. */
    private static final class Machine {
        final PigeonRolls x = new PigeonRolls();
        int calls = 0;
        boolean far = false;

        long ask(String call) {
            if (call.startsWith("tape ")) {
                return feed(call.substring(5));
            }
            if (call.equals("far")) {
                far = true;
                for (int i = 0; i < 1666; i++) {
                    x.go(60);
                }
                return x.now(0);
            }
            calls++;
            if (calls > MOST_CALLS && !far) {
                complain("more than " + MOST_CALLS + " calls in a test");
            }
            return invoke(x, call);
        }

        private long feed(String text) {
            byte[] bytes = text.getBytes(StandardCharsets.ISO_8859_1);
            long has = 0;
            for (int i = 0; i < bytes.length; i += 4) {
                int n = Math.min(4, bytes.length - i);
                int number = 0;
                for (int k = 0; k < n; k++) {
                    number = number << 8 | bytes[i + k] & 255;
                }
                has = ask("feed " + number + " " + n);
            }
            return has;
        }
    }

    private static long invoke(PigeonRolls x, String call) {
        String[] parts = call.split(" ");
        Object[] arguments = new Object[parts.length - 1];
        for (int i = 1; i < parts.length; i++) {
            arguments[i - 1] = number(parts[i]);
        }
        try {
            return ((Number) CALLS.get(parts[0]).invoke(x, arguments)).longValue();
        } catch (InvocationTargetException thrown) {
            complain(call + " threw " + thrown.getCause());
            return Long.MIN_VALUE;
        } catch (IllegalAccessException e) {
            throw new IllegalStateException(e);
        }
    }

    private static int number(String word) {
        return word.equals("min") ? Integer.MIN_VALUE : word.equals("max") ? Integer.MAX_VALUE : Integer.parseInt(word);
    }

    private static void complain(String what) {
        wrong++;
        System.out.println(sentence + ": " + what);
    }

    private static void same(String what, Object got, Object want) {
        asked++;
        if (!got.equals(want)) {
            complain(what + " answered " + got + ", due is " + want);
        }
    }

    /** A run of calls; each question is put to a new object behind that run, so that no question disturbs another. */
    private static final class Books {
        final List<String> run = new ArrayList<>();

        Books(String... calls) {
            run.addAll(Arrays.asList(calls));
        }

        Books and(String... calls) {
            Books more = new Books(run.toArray(new String[0]));
            more.run.addAll(Arrays.asList(calls));
            return more;
        }

        Machine machine() {
            Machine m = new Machine();
            for (String call : run) {
                m.ask(call);
            }
            return m;
        }

        String name(String call) {
            return (run.size() > 12 ? "[.. " + run.size() + " calls]" : run) + " " + call;
        }

        // What a call answers.
        Books answers(String call, long want) {
            same(name(call), machine().ask(call), want);
            return this;
        }

        // The same, and the run goes on with it.
        Books does(String call, long want) {
            answers(call, want);
            run.add(call);
            return this;
        }

        // What a call answers that changes nothing, status() neither.
        Books tells(String call, long want) {
            answers(call, want);
            changesNothing(call, NOTHING_FOUND);
            return this;
        }

        Books refuses(long finding, String call) {
            answers(call, finding);
            changesNothing(call, (int) (LOW - finding));
            return this;
        }

        // No finding, whatever the answer is.
        void permits(String call) {
            Machine m = machine();
            long before = m.ask("status -1");
            long answer = m.ask(call);
            same(name(call) + ", then status -1", m.ask("status -1"), before);
            same(name(call) + " is no finding: " + answer, answer > LOW || answer < SIZE, true);
        }

        // # goes over a range: both ends are allowed, those next to them and the ends of int are refused.
        Books range(String call, int least, int most) {
            permits(call.replace("#", "" + least));
            permits(call.replace("#", "" + most));
            return outside(call, least, most);
        }

        Books outside(String call, int least, int most) {
            long[] far = {least - 1L, most + 1L, least - 2L, most + 2L, Integer.MIN_VALUE, Integer.MAX_VALUE,
                Integer.MIN_VALUE + (long) most, least + 256L, least - 256L, least + 65536L, (long) -most, (long) ~most};
            Set<Integer> values = new LinkedHashSet<>();
            for (long v : far) {
                if ((v < least || v > most) && v == (int) v) {
                    values.add((int) v);
                }
            }
            for (int v : values) {
                refuses(BEYOND, call.replace("#", "" + v));
            }
            return this;
        }

        void changesNothing(String call, int which) {
            Machine m = machine();
            List<Long> due = statuses(m);
            if (which != NOTHING_FOUND) {
                due.set(0, due.get(0) + 1);
                due.set(which + 1, due.get(which + 1) + 1);
            }
            m.ask(call);
            same(name(call) + ", then status -1 to 6", statuses(m), due);
            for (int part = 0; part < PARTS; part++) {
                Machine with = machine();
                with.ask(call);
                same(name(call) + " changed nothing, part " + part, probe(with, part), probe(machine(), part));
            }
        }
    }

    private static final int NOTHING_FOUND = -1;
    private static final int PARTS = 4;

    private static List<Long> statuses(Machine m) {
        List<Long> told = new ArrayList<>();
        for (int which = -1; which < 7; which++) {
            told.add(m.ask("status " + which));
        }
        return told;
    }

    // All that can be asked of an object, in parts, as the last ones spoil what they ask.
    private static List<Long> probe(Machine m, int part) {
        List<Long> told = new ArrayList<>();
        switch (part) {
            case 0:
                state(m, told);
                break;
            case 1:
                for (int s = 0; s < 4; s++) {
                    numbers(m, s, told);
                }
                break;
            case 2:
                told.add(m.ask("text"));
                state(m, told);
                break;
            default:
                told.add(m.ask("undo"));
                state(m, told);
                told.add(m.ask("tear"));
                told.add(m.ask("undo"));
                break;
        }
        return told;
    }

    private static void state(Machine m, List<Long> told) {
        for (int what = 0; what < 8; what++) {
            told.add(m.ask("count " + what));
            told.add(m.ask("now " + what));
        }
        for (int i = 0; i < 6; i++) {
            told.add(m.ask("listed " + i));
        }
        long birds = m.ask("count 1");
        for (int b = 0; b < birds; b++) {
            for (int what = 0; what < 9; what++) {
                told.add(m.ask("of " + b + " " + what));
            }
        }
        for (int spot = 0; spot < 10; spot++) {
            told.add(m.ask("as " + spot + " 0"));
        }
    }

    // Each of the first six numbers comes to the front and into the list; then how many there are, and their bits.
    private static void numbers(Machine m, int s, List<Long> told) {
        for (int i = 0; i < 6; i++) {
            told.add(m.ask("copy " + s + " " + i + " " + s + " 0 1"));
            told.add(m.ask("load " + s));
            told.add(m.ask("listed 0"));
        }
        for (int i : new int[] {0, 1, 2, 3, 4, 5, 39}) {
            told.add(m.ask("write " + s + " " + i + " 0"));
        }
        for (int v : new int[] {256 + 5, 65536 + 6}) {
            told.add(m.ask("write " + s + " 0 " + v));
            told.add(m.ask("load " + s));
            told.add(m.ask("listed 0"));
        }
    }

    // The words must stand in the document, so that a test can't drift from its sentence.
    private static void words(int promise, String quoted) {
        sentences++;
        PROMISES.add(promise);
        sentence = (promise == 0 ? "terms" : "promise " + promise) + ", '" + quoted + "'";
        if (document != null && !document.contains(quoted)) {
            complain("the document has no such words");
        }
    }

    private static Books rich() {
        return new Books(RICH);
    }

    private static Books eight() {
        return rich().and("bird 0 5", "bird 3 5", "bird 5 0", "hatch 0 0");
    }

    private static Books empty() {
        return new Books();
    }

    // A bird by which nothing but pay is told: it draws as long as it has its boy, 10 in a quarter.
    private static Books boy() {
        return new Books("bird 0 0", "change 0 5 1");
    }

    private static Books carrier(int kind) {
        return new Books("bird " + kind + " 0", "change 0 4 1");
    }

    private static Books told(String text) {
        return new Books("tape " + text, "text");
    }

    // ---- the terms

    private static void terms() {
        words(0, "LOW is -1000001; LOW BEYOND, LOW - 1 FULL, LOW - 2 KIND, LOW - 3 NONE, LOW - 4 STATE, LOW - 5 MISSING,"
            + " LOW - 6 SIZE (in longs, too)");
        rich().answers("listed 6", -1000001).and("tear").answers("undo", -1000004);
        eight().answers("bird 0 0", -1000002);
        rich().answers("as 0 6", -1000003).answers("as 1 0", -1000006).answers("sheet 0 8 -1", -1000007);
        rich().and("change 0 3 81").answers("hatch 0 0", -1000005);
        rich().answers("odds 0 10 0", -1000001L);

        words(0, "one that answers a finding changes nothing but status()");
        rich().refuses(BEYOND, "listed 6").refuses(MISSING, "as 1 0").refuses(KIND, "as 0 6").refuses(SIZE, "sheet 0 8 -1");
        eight().refuses(FULL, "bird 0 0");
        rich().and("change 0 3 81").refuses(STATE, "hatch 0 0");
        rich().and("tear").refuses(NONE, "undo");

        words(0, "Quotients are cut.");
        eagleRates();
        lives();
        linesAndDraws();
        days();
        chance();
        limitsOfBirds();
    }

    private static void eagleRates() {
        words(0, "EAGLE: as a DUKE, less a tenth (cut) of TREASURY, 5 at least.");
        Books eagle = carrier(4);
        int[] corn = {0, 9, 10, 19, 20, 159, 160, 169, 170, 179, 180, 189, 220, 230, 99999};
        int[] rate = {22, 22, 21, 21, 20, 7, 6, 6, 5, 5, 5, 5, 5, 5, 5};
        for (int i = 0; i < corn.length; i++) {
            eagle.and("corn " + corn[i]).tells("of 0 10", rate[i]);
        }
        words(0, "COCK: as a BIRD, and how many BIRDS are in its LOFT (DEAD or not, itself, too).");
        carrier(2).answers("of 0 10", 11);
        told("cock loft 5;bird loft 4;hen loft 5 aged 81;hen;hen loft 5;strike 4").answers("of 0 10", 13);
        told("cock;bird;bird;bird;bird;bird;bird;bird").answers("of 0 10", 18).and("change 0 0 3").answers("of 0 10", 36);
        words(0, "WIDOW: as a HEN, and 4 for each BIRD FROM it that isn't DEAD.");
        carrier(6).answers("of 0 10", 8);
        told("widow;bird from 0 aged 60;bird from 0 aged 61;bird from 1 aged 1").answers("of 0 10", 12);
        told("widow;hen from 0;hen from 0;hen from 0;hen from 0;hen from 0;hen from 0;hen from 0").answers("of 0 10", 36);
        words(0, "JACKDAW: 1, if DAY is odd, else 0.");
        Books jackdaw = carrier(5);
        jackdaw.answers("of 0 11", 0).and("go 1").answers("of 0 11", 1).and("go 1").answers("of 0 11", 0);
        jackdaw.and("corn 9").does("go 1", 9).does("go 1", 8).does("go 1", 8).does("go 1", 7);
        words(0, "EATS (corn of TREASURY in a DAY, if it DRAWS): BIRD, HEN, WIDOW, COCK: 0. DUKE: 1. EAGLE: as a DUKE, and 2.");
        int[] meal = {0, 0, 0, 1, 3, 0, 0};
        for (int kind = 0; kind < 7; kind++) {
            carrier(kind).and("corn 9").answers("go 1", 9 - meal[kind]);
            new Books("bird " + kind + " 0", "corn 9").answers("go 1", 9);
            carrier(kind).and("corn 9", "change 0 6 1").answers("go 1", 9);
        }
    }

    private static void lives() {
        words(0, "DEAD: one whose AGE is more than it LIVES.");
        for (int kind = 0; kind < 7; kind++) {
            Books one = carrier(kind).and("change 0 3 " + LIVES[kind]);
            one.answers("of 0 9", LIVES[kind]).answers("now 3", 0).answers("of 0 13", 1);
            if (kind != 5) {
                one.and("change 0 3 " + (LIVES[kind] + 1)).answers("now 3", 1).answers("of 0 13", 0).answers("of 0 12", 1);
                one.and("change 0 3 9999").answers("now 3", 1);
            }
            one.and("go 1").answers("now 3", kind == 5 ? 0 : 1);
        }
        carrier(5).and("change 0 3 0").answers("now 3", 0);
    }

    private static void linesAndDraws() {
        words(0, "OF THE LINE: one that CARRIED, or whose parent is OF THE LINE (DEAD, OFF or not).");
        Books chain = told("hen;hen from 0;hen from 1;hen from 2;hen from 3;hen from 4;hen from 5;hen from 6");
        chain.answers("now 6", 0);
        chain.and("change 0 4 1").answers("now 6", 255).and("change 0 3 9999", "change 3 6 1").answers("now 6", 255);
        chain.and("change 7 4 1").answers("now 6", 128);
        chain.and("change 3 4 1").answers("now 6", 255 - 7).and("change 4 2 -1").answers("now 6", 8);
        words(0, "DRAWS: one that isn't OFF, and is OF THE LINE and not DEAD, or has a BOY.");
        for (int bits = 0; bits < 16; bits++) {
            boolean line = (bits & 1) != 0;
            boolean dead = (bits & 2) != 0;
            boolean boy = (bits & 4) != 0;
            boolean off = (bits & 8) != 0;
            Books one = new Books("bird 0 0", "change 0 4 " + (line ? 1 : 0), "change 0 3 " + (dead ? 61 : 60),
                "change 0 5 " + (boy ? 1 : 0), "change 0 6 " + (off ? 1 : 0));
            one.tells("of 0 13", !off && (line && !dead || boy) ? 1 : 0);
        }
    }

    private static void days() {
        words(0, "TREASURY is more by the HARVEST of THE LIST for DAY modulo 6 (99999 at most), then less by what all that"
            + " DRAW EAT together (0 at least).");
        Books duke = carrier(3);
        duke.and("corn 99999").answers("go 1", 99998);
        duke.and("corn 99999", "harvest 0 99").answers("go 1", 99998);
        duke.and("corn 99900", "harvest 0 99").answers("go 1", 99998);
        duke.and("corn 99901", "harvest 0 99").answers("go 1", 99998);
        duke.and("corn 99899", "harvest 0 99").answers("go 1", 99997);
        empty().and("corn 99900", "harvest 0 99").does("go 1", 99999).does("go 60", 99999);
        Books eagle = carrier(4);
        eagle.answers("go 1", 0).and("corn 2").answers("go 1", 0);
        eagle.and("corn 3").answers("go 1", 0).and("corn 4").answers("go 1", 1);
        eagle.and("harvest 0 3").answers("go 1", 0).and("harvest 0 4").answers("go 1", 1);
        Books list = empty().and("harvest 0 1", "harvest 1 2", "harvest 2 4", "harvest 3 8", "harvest 4 16", "harvest 5 32");
        list.answers("go 1", 1).answers("go 5", 31).answers("go 6", 63).answers("go 7", 64).answers("go 60", 630);

        words(0, "AGE of all is 1 more (9999 at most).");
        Books old = new Books("bird 5 0", "change 0 3 9998", "bird 0 0", "change 1 6 1", "bird 0 0", "change 2 3 61");
        old.and("go 1").answers("of 0 3", 9999).answers("of 1 3", 1).answers("of 2 3", 62);
        old.and("go 2").answers("of 0 3", 9999).and("go 60").answers("of 0 3", 9999).answers("of 1 3", 62);

        words(0, "(3) If DAY leaves 5 by 6 (a quarter's end): BIRDS by numbers that DRAW");
        Books rich = boy().and("corn 999");
        rich.answers("go 5", 999).answers("go 6", 989).answers("go 7", 989).answers("go 11", 989).answers("go 12", 979);
        told("bird aged 54 carried;corn 90").answers("go 6", 80);
        told("bird aged 55 carried;corn 90").answers("go 6", 90);
        told("bird carried;bird;bird carried;corn 9").and("go 6").answers("of 0 8", 9).answers("of 0 7", 1)
            .answers("of 1 7", 0).answers("of 2 8", 0).answers("of 2 7", 10);
        told("duke aged 100 carried;corn 9").does("go 1", 8).does("go 1", 8);

        words(0, "TREASURY is so much less, as far as it has it, PAID so much more as it gets (9999 at most), OWED what it"
            + " doesn't get (9999 at most).");
        int[] corn = {0, 1, 9, 10, 11};
        for (int c : corn) {
            int paid = Math.min(c, 10);
            boy().and("corn " + c, "go 6").answers("of 0 8", paid).answers("of 0 7", 10 - paid).answers("now 1", c - paid);
        }
        boy().and("corn 50", "change 0 8 9989", "go 6").answers("of 0 8", 9999).answers("now 1", 40);
        boy().and("corn 50", "change 0 8 9990", "go 6").answers("of 0 8", 9999).answers("now 1", 40);
        boy().and("corn 50", "change 0 8 9999", "go 6").answers("of 0 8", 9999).answers("now 1", 40).answers("of 0 7", 0);
        boy().and("corn 50", "change 0 8 9988", "go 6").answers("of 0 8", 9998);
        boy().and("change 0 7 9988", "go 6").answers("of 0 7", 9998);
        boy().and("change 0 7 9989", "go 6").answers("of 0 7", 9999);
        boy().and("change 0 7 9990", "go 6").answers("of 0 7", 9999);
        boy().and("change 0 7 9999", "go 6").answers("of 0 7", 9999).answers("of 0 8", 0);
        boy().and("change 0 7 9999", "corn 10008", "go 6").answers("of 0 7", 1).answers("of 0 8", 9999).answers("now 1", 0);
        boy().and("change 0 7 9999", "corn 10009", "go 6").answers("of 0 7", 0).answers("now 1", 0);
        boy().and("change 0 7 9999", "corn 10010", "go 6").answers("of 0 7", 0).answers("now 1", 1);
        boy().and("change 0 7 9999", "corn 9", "go 6").answers("of 0 7", 9999).answers("of 0 8", 9);
        boy().and("change 0 7 9999", "corn 11", "go 6").answers("of 0 7", 9998).answers("of 0 8", 11);

        words(0, "DAY is one more (99999 at most).");
        boy().and("far").answers("now 0", 99960).and("go 39").answers("now 0", 99999)
            .refuses(STATE, "go 1").tells("budget 100", 0).tells("ahead 0 13 100", 1);
    }

    private static void chance() {
        words(0, "z is told (1 at first); each makes it z * 1103515245 + 12345 (an int), and gives z >>> 8.");
        empty().tells("count 6", 1);
        for (int z : new int[] {0, 1, -1, 2, 12345, Integer.MAX_VALUE, Integer.MIN_VALUE, 0x7fffff00, 0x80000001}) {
            int first = next(z);
            int second = next(first);
            Books one = empty().and("seed " + z);
            one.answers("hatchings 1", (first >>> 8) % 100).and("hatchings 1").answers("count 6", second)
                .answers("listed 0", (first >>> 8) % 100);
        }
    }

    private static int next(int z) {
        return z * 1103515245 + 12345;
    }

    private static void limitsOfBirds() {
        words(0, "BIRDS 0, 1, .. (at most 8), of KINDS");
        Books some = empty();
        for (int b = 0; b < 8; b++) {
            some.answers("count 1", b).refuses(BEYOND, "of " + b + " 0").does("bird 0 0", b);
        }
        some.answers("count 1", 8).refuses(FULL, "bird 0 0").refuses(BEYOND, "of 8 0").tells("of 7 0", 0);
        words(0, "each in a LOFT, FROM another one of a lesser number (its parent, or -1: none, at first), with an AGE (DAYS;"
            + " 0 to 9999; 0 at first), CARRIED or not (in the war; 1, 0; 0 at first), BOY or not (draws for it; 1, 0; 0 at"
            + " first), OFF or not (struck off; 1, 0; 0 at first), OWED (corn; 0 to 9999; 0 at first), PAID (corn; 0 to"
            + " 9999; 0 at first).");
        Books fresh = new Books("bird 3 5");
        int[] first = {3, 5, -1, 0, 0, 0, 0, 0, 0};
        for (int what = 0; what < 9; what++) {
            fresh.tells("of 0 " + what, first[what]);
        }
        words(0, "SPOTS 0 to 9 hold a BIRD or nothing (at first). SHEETS 0 to 3: rows of at most 40 numbers of 8, 16 or 32"
            + " bits, or MISSING (at first).");
        for (int spot = 0; spot < 10; spot++) {
            empty().refuses(MISSING, "as " + spot + " 0");
        }
        for (int s = 0; s < 4; s++) {
            empty().refuses(MISSING, "load " + s).refuses(MISSING, "judge " + s).refuses(MISSING, "write " + s + " 0 0");
        }
    }

    // ---- kingdom, birds

    private static void kingdom() {
        words(1, "All as at first; no BIRDS; THE TAPE is empty, no image is kept.");
        for (int what = 0; what < 8; what++) {
            empty().tells("count " + what, what == 6 ? 1 : 0).tells("now " + what, 0);
        }
        for (int i = 0; i < 6; i++) {
            empty().tells("listed " + i, 0).tells("loft " + i, 0);
        }
        empty().refuses(NONE, "undo").tells("tear", 0).tells("wipe", 0).answers("text", -1).refuses(BEYOND, "of 0 0");
        empty().refuses(NONE, "fails").tells("ends", 0).tells("strike 24", 0).tells("harvestFor 5 60", 0);
        for (int which = -1; which < 7; which++) {
            empty().tells("status " + which, 0);
        }

        words(2, "THE LIST tells in place i (0 to 5) a HARVEST: which it was. BEYOND.");
        rich().range("harvest # 7", 0, 5).range("harvest 3 #", 0, 99).refuses(BEYOND, "harvest min max");
        empty().does("harvest 5 99", 0).does("harvest 5 0", 99).does("harvest 5 1", 0).answers("listed 4", 0);

        words(3, "The HARVEST in a place of THE LIST. BEYOND.");
        rich().range("listed #", 0, 5).tells("listed 0", 11).tells("listed 5", 16);

        words(4, "TREASURY becomes v (0 to 99999): what it was. BEYOND.");
        rich().range("corn #", 0, 99999).does("corn 99999", 70).does("corn 0", 99999).answers("now 1", 0);

        words(5, "A new BIRD in a LOFT, FROM none: its number. BEYOND. FULL.");
        rich().range("bird # 0", 0, 6).range("bird 0 #", 0, 5).refuses(BEYOND, "bird max min");
        eight().refuses(FULL, "bird 0 0").refuses(FULL, "bird 6 5").outside("bird # 0", 0, 6).outside("bird 0 #", 0, 5);
        rich().and("bird 0 0", "bird 0 0", "bird 0 0").answers("bird 6 5", 7);

        words(6, "A new BIRD FROM one, in its LOFT: its number. BEYOND. FULL. STATE: that one is DEAD.");
        rich().range("hatch # 0", 0, 3).range("hatch 0 #", 0, 6).refuses(BEYOND, "hatch min max");
        rich().and("hatch 3 6").answers("of 4 1", 2).answers("of 4 2", 3).answers("of 4 0", 6).answers("of 4 3", 0);
        empty().refuses(BEYOND, "hatch 0 0").refuses(BEYOND, "hatch -1 0");
        eight().refuses(FULL, "hatch 7 0").outside("hatch # 0", 0, 7).outside("hatch 0 #", 0, 6);
        eight().and("change 0 3 81").refuses(FULL, "hatch 0 0").refuses(BEYOND, "hatch 0 7").refuses(BEYOND, "hatch 8 0");
        rich().and("change 0 3 81").refuses(STATE, "hatch 0 0").refuses(BEYOND, "hatch 0 7").refuses(BEYOND, "hatch 0 -1");
        for (int kind = 0; kind < 7; kind++) {
            Books one = new Books("bird " + kind + " 3", "change 0 3 " + LIVES[kind]);
            one.answers("hatch 0 0", 1);
            if (kind != 5) {
                one.and("change 0 3 " + (LIVES[kind] + 1)).refuses(STATE, "hatch 0 0");
            }
        }

        words(7, "12 whether it is OF THE LINE, 13 whether it DRAWS (1, 0 each). BEYOND.");
        rich().range("of # 0", 0, 3).range("of 0 #", 0, 13).refuses(BEYOND, "of max min").refuses(BEYOND, "of 4 13");
        eight().range("of # 13", 0, 7);
        empty().refuses(BEYOND, "of 0 0").refuses(BEYOND, "of -1 2");
        changes();
        sets();
    }

    private static void changes() {
        words(8, "of a BIRD becomes v: what it was. BEYOND.");
        rich().range("change # 3 5", 0, 3).outside("change 0 # 0", 0, 8).refuses(BEYOND, "change min max min");
        for (int what = 0; what < 9; what++) {
            rich().permits("change 0 " + what + " " + (what == 2 ? -1 : 0));
        }
        int[] most = {6, 5, 0, 9999, 1, 1, 1, 9999, 9999};
        int[] was = {1, 1, -1, 0, 0, 0, 0, 0, 0};
        for (int what = 0; what < 9; what++) {
            if (what == 2) {
                continue;
            }
            Books one = new Books("bird 1 1", "bird 0 0").range("change 0 " + what + " #", 0, most[what]);
            one.does("change 0 " + what + " " + most[what], was[what]).answers("of 0 " + what, most[what]);
            one.does("change 0 " + what + " 0", most[what]).answers("of 0 " + what, 0);
        }
        words(8, "FROM (2: -1 or a lesser number)");
        for (int b = 0; b < 8; b++) {
            eight().range("change " + b + " 2 #", -1, b - 1);
        }
        eight().does("change 7 2 6", 0).does("change 7 2 -1", 6).answers("of 7 2", -1);
        empty().refuses(BEYOND, "change 0 0 0").refuses(BEYOND, "change -1 2 -1");
    }

    private static void sets() {
        words(9, "BIRDS in a LOFT, as a set. BEYOND.");
        rich().range("loft #", 0, 5).tells("loft 0", 0).tells("loft 1", 3).tells("loft 2", 12);
        Books crowd = empty();
        for (int b = 0; b < 8; b++) {
            crowd.tells("loft 5", (1 << b) - 1).does("bird 0 5", b);
        }
        crowd.tells("loft 5", 255).tells("loft 4", 0);
        crowd.and("change 7 1 4", "change 0 3 61").tells("loft 5", 127).tells("loft 4", 128);

        words(10, "All BIRDS that come from one, by however many, and itself, as a set. BEYOND.");
        rich().range("issue #", 0, 3);
        empty().refuses(BEYOND, "issue 0");
        Books chain = told("hen;hen from 0;hen from 1;hen from 2;hen from 3;hen from 4;hen from 5;hen from 6");
        for (int b = 0; b < 8; b++) {
            chain.tells("issue " + b, 256 - (1 << b));
        }
        chain.and("change 4 2 -1").tells("issue 0", 15).tells("issue 4", 240);
        told("hen;hen;hen;hen;hen;hen;hen;hen").tells("issue 0", 1).tells("issue 7", 128);
    }

    // ---- days

    private static void going() {
        words(11, "n DAYS (1 to 60): TREASURY then. BEYOND. STATE: DAY would be above 99999.");
        rich().range("go #", 1, 60);
        boy().and("corn 999").answers("go 1", 999).answers("go 60", 899).and("go 60").answers("now 0", 60);
        Books far = boy().and("far", "change 0 5 0", "corn 7", "tape corn 5");
        far.refuses(STATE, "go 40").refuses(STATE, "go 60").answers("go 39", 7).outside("go #", 1, 60);
        Books end = far.and("go 39");
        end.answers("now 0", 99999).refuses(STATE, "go 1").refuses(STATE, "go 60").outside("go #", 1, 60);
        far.and("go 38").answers("go 1", 7).refuses(STATE, "go 2");

        words(12, "6 who is OF THE LINE, as a set, 7 PAID of all together. BEYOND.");
        rich().range("now #", 0, 7);
        Books crowd = empty();
        for (int b = 0; b < 8; b++) {
            crowd = crowd.and("bird 3 0", "change " + b + " 4 1", "change " + b + " 7 9999", "change " + b + " 8 9999");
        }
        crowd.tells("now 2", 255).tells("now 3", 0).tells("now 4", 8 * 9999).tells("now 5", 8 * 36);
        crowd.tells("now 6", 255).tells("now 7", 8 * 9999).and("corn 99999").tells("now 1", 99999);
        for (int b = 0; b < 8; b++) {
            crowd = crowd.and("change " + b + " 3 101");
        }
        crowd.tells("now 2", 0).tells("now 3", 255).tells("now 5", 0).tells("now 6", 255);
    }

    // ---- what will be

    private static void ahead() {
        words(13, "What 7, 8, 10, 13 (as in of()) of a BIRD behind n (0 to 100) DAYS. BEYOND.");
        rich().range("ahead # 7 6", 0, 3).range("ahead 0 8 #", 0, 100).outside("ahead 0 # 6", 7, 13);
        for (int what : new int[] {7, 8, 10, 13}) {
            rich().permits("ahead 3 " + what + " 100");
        }
        for (int what : new int[] {0, 1, 2, 3, 4, 5, 6, 9, 11, 12, 14}) {
            rich().refuses(BEYOND, "ahead 0 " + what + " 6");
        }
        empty().refuses(BEYOND, "ahead 0 7 0").refuses(BEYOND, "ahead min max min");
        boy().and("corn 25").tells("ahead 0 8 0", 0).tells("ahead 0 8 5", 0).tells("ahead 0 8 6", 10).tells("ahead 0 8 100", 25)
            .tells("ahead 0 7 100", 135).tells("ahead 0 10 100", 10).tells("ahead 0 13 0", 1).tells("ahead 0 13 100", 1);
        boy().and("corn 999", "go 2").tells("ahead 0 8 99", 160).tells("ahead 0 8 100", 170);
        told("duke carried").tells("ahead 0 13 100", 1).and("change 0 3 1").tells("ahead 0 13 99", 1).tells("ahead 0 13 100", 0);

        words(14, "TREASURY behind n (0 to 100) DAYS. BEYOND.");
        rich().range("budget #", 0, 100).tells("budget 0", 70);
        boy().and("corn 999").tells("budget 5", 999).tells("budget 6", 989).tells("budget 100", 839);
        boy().and("corn 999", "go 2").tells("budget 100", 829).tells("budget 99", 839);
        empty().and("harvest 0 99", "corn 99998").tells("budget 1", 99999).tells("budget 100", 99999);

        words(15, "Behind how many DAYS (0 to 200, the fewest) a BIRD is DEAD. BEYOND. NONE.");
        rich().range("dies #", 0, 3);
        empty().refuses(BEYOND, "dies 0");
        for (int kind = 0; kind < 7; kind++) {
            Books one = carrier(kind);
            if (kind == 5) {
                one.refuses(NONE, "dies 0").and("change 0 3 9999").refuses(NONE, "dies 0");
                one.and("change 0 3 9900").refuses(NONE, "dies 0");
                continue;
            }
            one.and("change 0 3 " + LIVES[kind]).tells("dies 0", 1);
            one.and("change 0 3 " + (LIVES[kind] + 1)).tells("dies 0", 0).and("change 0 3 9999").tells("dies 0", 0);
            if (kind != 4) {
                one.tells("dies 0", LIVES[kind] + 1);
            }
        }
        carrier(4).refuses(NONE, "dies 0").and("change 0 3 1").tells("dies 0", 200).and("change 0 3 2").tells("dies 0", 199);
        failing();
    }

    private static void failing() {
        words(16, "Behind how many DAYS (0 to 200, the fewest) somebody is OWED something. NONE.");
        empty().refuses(NONE, "fails");
        boy().tells("fails", 6).and("change 0 7 1").tells("fails", 0).and("change 0 6 1").tells("fails", 0);
        Books day4 = boy().and("go 4");
        day4.and("corn 339").tells("fails", 200).and("corn 329").tells("fails", 194).and("corn 330").tells("fails", 200);
        day4.and("corn 340").refuses(NONE, "fails").and("corn 9").tells("fails", 2).and("corn 10").tells("fails", 8);
        boy().and("go 3", "corn 329").tells("fails", 195).and("corn 330").refuses(NONE, "fails");
        told("bird carried;corn 99").tells("fails", 60).and("corn 100").refuses(NONE, "fails");
        rich().tells("fails", 0);

        words(17, "Behind how many DAYS (0 to 200, the fewest) PAID of a BIRD is v (0 to 9999) or more. BEYOND. NONE.");
        rich().range("when # 0", 0, 3).outside("when 0 #", 0, 9999).refuses(BEYOND, "when max min").tells("when 0 0", 0);
        empty().refuses(BEYOND, "when 0 0");
        Books pay = boy().and("go 4", "corn 99999");
        pay.tells("when 0 0", 0).tells("when 0 1", 2).tells("when 0 10", 2).tells("when 0 11", 8);
        pay.tells("when 0 330", 194).tells("when 0 331", 200).tells("when 0 340", 200).refuses(NONE, "when 0 341");
        pay.refuses(NONE, "when 0 9999").and("change 0 8 9998").tells("when 0 9998", 0).tells("when 0 9999", 2);
        pay.and("change 0 8 9999").tells("when 0 9999", 0).refuses(BEYOND, "when 0 10000");
        boy().refuses(NONE, "when 0 1").tells("when 0 0", 0);

        words(18, "Behind how many DAYS (0 to 200, the fewest) nobody DRAWS. NONE.");
        empty().tells("ends", 0);
        boy().refuses(NONE, "ends").and("change 0 6 1").tells("ends", 0);
        carrier(4).refuses(NONE, "ends").and("change 0 3 1").tells("ends", 200).and("change 0 3 200").tells("ends", 1);
        carrier(4).and("change 0 3 201").tells("ends", 0);
        carrier(5).refuses(NONE, "ends").and("change 0 3 9999").refuses(NONE, "ends");
        told("cock carried;hen carried;bird").tells("ends", 81);
        rich().refuses(NONE, "ends");
    }

    // ---- whom to strike off

    private static void striking() {
        words(19, "The least HARVEST (0 to 99) of place i of THE LIST with which nobody is OWED anything behind n (0 to 60)"
            + " DAYS. BEYOND. NONE.");
        boy().range("harvestFor # 6", 0, 5).range("harvestFor 0 #", 0, 60).refuses(BEYOND, "harvestFor min max");
        rich().outside("harvestFor # 0", 0, 5).outside("harvestFor 0 #", 0, 60).refuses(NONE, "harvestFor 0 0");
        for (int i = 0; i < 6; i++) {
            boy().tells("harvestFor " + i + " 0", 0).tells("harvestFor " + i + " 5", 0).tells("harvestFor " + i + " 6", 10);
            boy().tells("harvestFor " + i + " 60", 10).and("corn 10").tells("harvestFor " + i + " 6", 0);
        }
        boy().and("change 0 7 1").refuses(NONE, "harvestFor 0 0").refuses(NONE, "harvestFor 0 5").tells("harvestFor 0 6", 11);
        boy().and("change 0 7 89").tells("harvestFor 5 6", 99).and("change 0 7 90").refuses(NONE, "harvestFor 5 6");
        boy().and("change 0 7 90").tells("harvestFor 5 12", 55);

        words(20, "The KIND of which a BIRD must be, so that its PAID is most behind n (0 to 60) DAYS. BEYOND.");
        rich().range("kindFor # 6", 0, 3).range("kindFor 0 #", 0, 60).refuses(BEYOND, "kindFor max min");
        empty().refuses(BEYOND, "kindFor 0 0");
        boy().and("change 0 0 5", "corn 9999").tells("kindFor 0 0", 0).tells("kindFor 0 5", 0).tells("kindFor 0 6", 3)
            .tells("kindFor 0 60", 3).and("change 0 8 9999").tells("kindFor 0 60", 0);
        boy().and("change 0 0 6").tells("kindFor 0 60", 0).and("corn 1").tells("kindFor 0 6", 0);
        carrier(0).and("corn 9999", "change 0 3 94").tells("kindFor 0 6", 3).and("change 0 3 95").tells("kindFor 0 6", 4);
        carrier(0).and("corn 9999", "change 0 3 194").tells("kindFor 0 6", 4).and("change 0 3 195").tells("kindFor 0 6", 5);
        carrier(0).and("corn 9999", "change 0 3 9999").tells("kindFor 0 6", 5);

        words(21, "Who is the best parent for a BIRD (-1: none, which comes last; else one of a lesser number), so that its"
            + " PAID is most behind n (0 to 60) DAYS. BEYOND.");
        rich().range("parentFor # 6", 0, 3).range("parentFor 3 #", 0, 60).refuses(BEYOND, "parentFor min max");
        empty().refuses(BEYOND, "parentFor 0 0");
        Books hens = told("hen;hen carried;hen carried;hen carried;hen;hen;hen;hen from 4;corn 999");
        hens.tells("parentFor 0 60", -1).tells("parentFor 1 60", 0).tells("parentFor 7 0", 0).tells("parentFor 7 5", 0);
        hens.tells("parentFor 7 6", 1).tells("parentFor 7 60", 1).and("change 1 4 0").tells("parentFor 7 6", 2);
        told("hen;hen;hen;hen;hen;hen;hen carried;hen;corn 999").tells("parentFor 7 6", 6);
        told("widow carried;bird from 0 carried;corn 20").tells("parentFor 1 6", -1).tells("parentFor 1 0", 0);
        told("widow carried;bird from 0 carried;corn 22").tells("parentFor 1 6", 0);

        words(22, "if these are struck OFF now, too, nobody but these is OWED anything behind n (0 to 24) DAYS; of several"
            + " the least. BEYOND. NONE.");
        rich().range("strike #", 0, 24);
        empty().tells("strike 0", 0).tells("strike 24", 0);
        Books crowd = told("bird boy;bird boy;bird boy;bird boy;bird boy;bird boy;bird boy;bird boy");
        crowd.tells("strike 5", 0).tells("strike 6", 255).tells("strike 24", 255);
        crowd.and("corn 9").tells("strike 6", 255).and("corn 10").tells("strike 6", 127).and("corn 79").tells("strike 6", 1);
        crowd.and("corn 80").tells("strike 6", 0).tells("strike 12", 15).and("corn 319").tells("strike 24", 1);
        crowd.and("corn 320").tells("strike 24", 0).and("change 7 7 1").tells("strike 0", 128).tells("strike 6", 0);
        crowd.and("go 3", "corn 10").tells("strike 2", 0).tells("strike 3", 127);

        words(23, "The set of fewest BIRDS such that, if these hadn't CARRIED, a told one were not OF THE LINE; of several"
            + " the least. BEYOND.");
        rich().range("deny #", 0, 3);
        empty().refuses(BEYOND, "deny 0");
        Books chain = told("hen;hen from 0;hen from 1;hen from 2;hen from 3;hen from 4;hen from 5;hen from 6");
        chain.tells("deny 7", 0).tells("deny 0", 0);
        for (int b = 0; b < 8; b++) {
            chain = chain.and("change " + b + " 4 1");
        }
        for (int b = 0; b < 8; b++) {
            chain.tells("deny " + b, (2 << b) - 1);
        }
        chain.and("change 0 3 9999", "change 1 6 1").tells("deny 7", 255).and("change 7 2 -1").tells("deny 7", 128);
    }

    // ---- told arrears

    private static void arrears() {
        for (String call : new String[] {"fits", "kinds"}) {
            words(call.equals("fits") ? 24 : 25, "BEYOND: no such sheet. MISSING. BEYOND: no such BIRD.");
            rich().outside(call + " # 0", 0, 3).outside(call + " 0 #", 0, 3).refuses(BEYOND, call + " min max");
            rich().permits(call + " 0 0");
            rich().and("sheet 3 8 0").permits(call + " 3 3");
            rich().refuses(MISSING, call + " 3 0").refuses(MISSING, call + " 3 4").refuses(MISSING, call + " 3 -1");
            rich().refuses(BEYOND, call + " 4 4").refuses(BEYOND, call + " -1 -1").refuses(MISSING, call + " 3 min");
            empty().refuses(MISSING, call + " 0 0").and("sheet 0 8 1").refuses(BEYOND, call + " 0 0");
        }
        words(24, "How many AGES (0 to 99) a BIRD could be now");
        Books widow = carrier(6);
        widow.and("sheet 0 8 0").tells("fits 0 0", 100).tells("kinds 0 0", 127);
        widow.and("sheet 0 8 2").tells("fits 0 0", 5);
        widow.and("sheet 0 8 2", "write 0 1 8").tells("fits 0 0", 95);
        widow.and("sheet 0 8 2", "write 0 1 8", "change 0 3 9999").tells("fits 0 0", 95);
        widow.and("sheet 0 8 1", "write 0 0 1").tells("fits 0 0", 0).tells("kinds 0 0", 0);
        Books bird = carrier(0).and("sheet 0 8 3", "write 0 1 10", "write 0 2 10");
        bird.tells("fits 0 0", 6).and("go 5", "write 0 0 0").tells("fits 0 0", 6);

        words(24, "(-1: any; the first 10 numbers alone are asked)");
        Books tenth = boy().and("sheet 0 16 40");
        for (int i = 0; i < 9; i++) {
            tenth = tenth.and("write 0 " + i + " -1");
        }
        tenth.tells("fits 0 0", 0).tells("kinds 0 0", 0).and("write 0 9 90").tells("fits 0 0", 100).tells("kinds 0 0", 1);
        tenth.and("write 0 9 91").tells("fits 0 0", 0);
        tenth.and("write 0 9 -1").tells("fits 0 0", 100).tells("kinds 0 0", 127);
        tenth.and("write 0 9 -2").tells("fits 0 0", 0).tells("kinds 0 0", 0);
        tenth.and("write 0 9 -1", "write 0 10 77", "write 0 39 77").tells("fits 0 0", 100);
        Books ten = boy().and("sheet 0 16 10", "sheet 1 16 9");
        for (int i = 0; i < 9; i++) {
            ten = ten.and("write 0 " + i + " " + 10 * i, "write 1 " + i + " " + 10 * i);
        }
        ten.tells("fits 1 0", 100).tells("fits 0 0", 0).and("write 0 9 90").tells("fits 0 0", 100).tells("kinds 0 0", 1);

        words(25, "KINDS that it could be of, as a set, likewise.");
        Books kinds = carrier(0).and("sheet 0 8 2");
        kinds.tells("kinds 0 0", 0).and("write 0 1 3").tells("kinds 0 0", 32).and("write 0 1 8").tells("kinds 0 0", 2 + 64);
        kinds.and("write 0 1 10").tells("kinds 0 0", 1).and("change 0 3 9999").tells("kinds 0 0", 0);
        kinds.and("change 0 3 9999").tells("kinds 0 0", 127 - 32).and("change 0 3 54").tells("kinds 0 0", 4);
    }

    // ---- hatchings

    private static void hatchings() {
        words(26, "n times (1 to 20) two draws");
        rich().range("hatchings #", 1, 20);
        empty().and("hatchings 1").answers("count 0", 1).answers("count 6", next(next(1)));
        int z = 1;
        for (int i = 0; i < 40; i++) {
            z = next(z);
        }
        empty().and("hatchings 20").answers("count 0", 20).answers("count 6", z);

        words(26, "THE LIST tells for this DAY the first one's rest by 100");
        for (int rest : new int[] {0, 1, 98, 99}) {
            empty().and("go 5", "seed " + seed(rest, 100, 1)).does("hatchings 1", rest).answers("listed 5", rest);
        }
        words(26, "the BIRD of the second one's rest by 8, if there is one, has a BOY, if it had none, and none, if it had one");
        Books crowd = told("hen;hen;hen;hen;hen;hen;hen;hen");
        for (int rest = 0; rest < 8; rest++) {
            int seed = seed(rest, 8, 2);
            Books one = crowd.and("seed " + seed, "hatchings 1");
            one.answers("now 2", 1 << rest).answers("of " + rest + " 5", 1);
            one.and("seed " + seed, "hatchings 1").answers("now 2", 0).answers("of " + rest + " 5", 0);
            Books four = told("hen;hen;hen;hen").and("seed " + seed, "hatchings 1");
            four.answers("now 2", rest < 4 ? 1 << rest : 0).and("bird 0 0").answers("of 4 5", 0);
            empty().and("seed " + seed, "hatchings 1").answers("now 2", 0).answers("count 1", 0);
        }

        words(26, "then a DAY: TREASURY then. BEYOND. STATE: DAY would be above 99999.");
        Books far = boy().and("far", "go 19", "seed 5");
        far.answers("now 0", 99979).permits("hatchings 20");
        Books farther = far.and("go 1");
        farther.refuses(STATE, "hatchings 20").permits("hatchings 19");
        farther.outside("hatchings #", 1, 20);
        Books end = far.and("hatchings 20");
        end.answers("now 0", 99999).refuses(STATE, "hatchings 1").refuses(STATE, "hatchings 20").outside("hatchings #", 1, 20);

        words(27, "each the rest by 100 of a draw, are all what a BIRD is due now (its RATE and OWED together) or more");
        rich().range("odds # 1 0", 0, 3).range("odds 0 # 0", 0, 9).range("odds 0 1 #", 0, 1).refuses(BEYOND, "odds min max min");
        empty().refuses(BEYOND, "odds 0 0 0");
        boy().tells("odds 0 1 0", 9).tells("odds 0 1 1", 10).tells("odds 0 0 0", 1).tells("odds 0 0 1", 1);
        boy().tells("odds 0 9 0", 387420489L).tells("odds 0 9 1", 1000000000L);
        Books last = boy().and("change 0 7 89");
        last.tells("odds 0 1 0", 1).tells("odds 0 1 1", 100).tells("odds 0 9 0", 1).tells("odds 0 9 1", 1000000000000000000L);
        for (int owed : new int[] {90, 91, 9999}) {
            Books never = boy().and("change 0 7 " + owed);
            never.tells("odds 0 1 0", 0).tells("odds 0 1 1", 1).tells("odds 0 9 0", 0).tells("odds 0 9 1", 1);
            never.tells("odds 0 0 0", 1).tells("odds 0 0 1", 1);
        }
        carrier(5).tells("odds 0 9 0", 760231058654565217L).tells("odds 0 9 1", 1000000000000000000L);
        carrier(4).and("corn 99999").tells("odds 0 1 0", 19).tells("odds 0 1 1", 20);

        words(28, "z becomes v: what it was.");
        empty().does("seed min", 1).does("seed max", Integer.MIN_VALUE).does("seed 0", Integer.MAX_VALUE).does("seed -1", 0);
        empty().does("seed " + LOW, 1).tells("count 6", LOW).does("seed 1", LOW).tells("status -1", 0);
    }

    // A z of which the first or second draw leaves a rest.
    private static int seed(int rest, int by, int which) {
        for (int z = 1; z < 1000000; z++) {
            int drawn = which == 1 ? next(z) : next(next(z));
            if ((drawn >>> 8) % by == rest && drawn < 0) {
                return z;
            }
        }
        throw new IllegalStateException("no seed");
    }

    // ---- texts

    private static void tape() {
        words(29, "THE TAPE gets the n lowest bytes of a number behind it, the highest of these first (n 1 to 4): how many it"
            + " has. BEYOND: n. FULL.");
        rich().range("feed 0 #", 1, 4).refuses(BEYOND, "feed min 0").refuses(BEYOND, "feed max 5").refuses(BEYOND, "feed -1 min");
        String bytes = "corn 1;".repeat(16);
        Books tape = empty().and("tape " + bytes);
        tape.answers("count 5", 112).answers("feed 0 4", 116);
        Books full = tape.and("tape corn 123");
        full.answers("count 5", 120).outside("feed 0 #", 1, 4);
        for (int n = 1; n <= 4; n++) {
            full.refuses(FULL, "feed 0 " + n);
            Books nearly = tape.and("tape corn 123".substring(0, 13 - n));
            nearly.answers("count 5", 120 - n).answers("feed 32 " + n, 120);
            if (n < 4) {
                nearly.refuses(FULL, "feed 32 " + (n + 1));
            }
            nearly.outside("feed 0 #", 1, 4);
        }
        full.answers("text", 17).and("text").answers("now 1", 123).answers("count 5", 0);
        // corn 7 in two numbers, with higher bytes that don't count; then the ends of int.
        empty().and("feed 1668248174 4").does("feed " + 0x7f7f2037 + " 2", 6).does("text", 1).answers("now 1", 7);
        empty().and("feed 1668248174 4").does("feed " + 0x80002039 + " 2", 6).does("text", 1).answers("now 1", 9);
        empty().does("feed min 4", 4).answers("text", -1);
        empty().and("tape corn 8;").does("feed max 4", 11).answers("text", -8).and("text").answers("now 1", 0);
        empty().and("tape corn 8").does("feed " + 0x7fffff39 + " 1", 7).does("text", 1).answers("now 1", 89);

        words(30, "THE TAPE is empty: how many it had.");
        empty().tells("wipe", 0).and("feed 0 1").does("wipe", 1).answers("wipe", 0).answers("count 5", 0);
        full.does("wipe", 120).answers("count 5", 0).answers("wipe", 0).answers("feed 0 4", 4).answers("text", -1);
    }

    private static void texts() {
        words(31, "With a FAULT: -1 less the FAULT (nothing changes but that THE TAPE is empty; no finding).");
        fault(rich(), "", 0);
        fault(rich(), "bird;harvest 0 5;corn 9;strike 0;hen x", 37);
        fault(rich(), "corn 9;harvest 3 3;strike 1;hen;", 32);
        fault(eight(), "hen", 0);
        fault(eight(), "corn 1;hen", 7);
        fault(eight(), "corn 1;strike 8", 14);
        reads(eight(), "corn 1;strike 7", 2);
        reads(rich(), "hen;hen;hen;hen", 4);
        fault(rich(), "hen;hen;hen;hen;hen", 16);
        fault(rich(), "hen;hen;hen;hen;hen loft 9", 16);

        words(0, "a byte that begins no TOKEN");
        for (int b = 0; b < 256; b++) {
            boolean letter = b >= 'a' && b <= 'z';
            boolean digit = b >= '0' && b <= '9';
            int behindWord = b == ' ' ? 1 : b == ';' ? -1 - 4 : letter ? -1 : -1 - 3;
            int behindNumber = b == ' ' || digit ? 1 : b == ';' ? -1 - 7 : -1 - 6;
            empty().and("tape hen" + (char) b).answers("text", behindWord);
            empty().and("tape corn 5" + (char) b).answers("text", behindNumber);
            empty().and("tape " + (char) b).answers("text", b == ' ' ? -2 : -1);
        }
        words(0, "THE TAPE (bytes, at most 120)");
        reads(empty(), "corn 1;".repeat(16) + "corn 123", 17);
        fault(empty(), "corn 1;".repeat(16) + "corn 12;", 120);
        fault(empty(), "corn 1;".repeat(17) + "c", 119);
        reads(empty(), "corn 1" + " ".repeat(114), 1);
        fault(empty(), " ".repeat(120), 120);
        fault(empty(), "z".repeat(120), 0);
        fault(empty(), "corn " + "9".repeat(115), 5);
        reads(empty(), "corn " + "0".repeat(114) + "9", 1);
        words(0, "or how many bytes there are if it ends too early");
        String[] cut = {"", "hen;", "hen loft", "hen from", "hen aged", "harvest", "harvest 5", "corn", "strike"};
        for (String early : cut) {
            fault(empty(), early, early.length());
            fault(empty(), early + "  ", early.length() + 2);
        }
        numbers();
        items();
    }

    private static void numbers() {
        words(0, "NUMBERS (digits, 9999 at most)");
        String[] most = {"hen loft 5", "hen;hen from 0", "hen aged 9999", "harvest 5 99", "harvest 0 99", "corn 9999",
            "hen;strike 0", "hen loft 0", "hen aged 0", "harvest 0 0", "corn 0", "hen;hen;hen from 1"};
        for (String text : most) {
            reads(empty(), text, text.split(";").length);
        }
        String[] above = {"hen loft 6", "hen;hen from 1", "hen aged 10000", "harvest 5 100", "harvest 0 100", "corn 10000",
            "hen;strike 1", "hen from 0", "strike 0", "hen;hen;hen from 2"};
        for (String text : above) {
            fault(empty(), text, text.lastIndexOf(' ') + 1);
        }
        fault(empty(), "harvest 6 0", 8);
        fault(empty(), "harvest 6", 8);
        fault(rich(), "hen from 4", 9);
        reads(rich(), "hen from 3", 1);
        fault(rich(), "strike 4", 7);
        reads(rich(), "strike 3", 1);
        // Rows of digits that come to a small number if they wrap around.
        String[] wraps = {"4294967296", "4294967297", "2147483648", "8589934592", "18446744073709551616", "99999",
            "18446744073709551617", "340282366920938463463374607431768211456", "1" + "0".repeat(40)};
        String[] places = {"hen loft ", "hen;hen from ", "hen aged ", "harvest ", "harvest 0 ", "corn ", "hen;strike "};
        for (String place : places) {
            for (String digits : wraps) {
                fault(empty(), place + digits, place.length());
            }
        }
        told("hen loft 5 aged 9999").answers("of 0 1", 5).answers("of 0 3", 9999);
        told("harvest 5 99;corn 9999").answers("listed 5", 99).answers("now 1", 9999);
        told("harvest 5 99;harvest 5 0;corn 1;corn 0").answers("listed 5", 0).answers("now 1", 0);
        rich().and("wipe", "tape corn 0;harvest 5 0;strike 3", "text").answers("now 1", 0).answers("listed 5", 0)
            .answers("of 3 6", 1).answers("of 2 6", 1).answers("of 1 6", 0);
    }

    private static void items() {
        words(0, "the WORD of a 9th BIRD: its own");
        for (String word : WORDS) {
            reads(empty(), "hen;hen;hen;hen;hen;hen;hen;" + word, 8);
            fault(empty(), "hen;hen;hen;hen;hen;hen;hen;hen;" + word, 32);
            fault(empty(), "hen;hen;hen;hen;hen;hen;hen;hen; " + word + " loft 6", 33);
        }
        words(0, "perhaps loft and a NUMBER (0 to 5; 0 without), perhaps from and a NUMBER (one who is there already), perhaps"
            + " aged and a NUMBER (0 to 9999), perhaps carried, perhaps boy: a new one");
        told("hen loft 5;hen from 0").answers("of 1 1", 0).answers("of 1 2", 0).answers("of 0 2", -1);
        for (int bits = 0; bits < 32; bits++) {
            StringBuilder item = new StringBuilder("hen;cock");
            String[] parts = {" loft 3", " from 0", " aged 7", " carried", " boy"};
            for (int p = 0; p < 5; p++) {
                item.append((bits >> p & 1) == 1 ? parts[p] : "");
            }
            Books one = told(item.toString());
            int[] with = {3, 0, 7, 1, 1};
            for (int p = 0; p < 5; p++) {
                one.answers("of 1 " + (p + 1), (bits >> p & 1) == 1 ? with[p] : p == 1 ? -1 : 0);
            }
            // Whatever part stands, none that comes before it may follow, nor itself.
            int last = 31 - Integer.numberOfLeadingZeros(bits);
            for (int p = 0; p <= last; p++) {
                fault(empty(), item + parts[p], item.length() + 1);
            }
        }
        tokens();
    }

    private static void tokens() {
        words(0, "TOKENS, each as long as can be");
        fault(empty(), "hencarried", 0);
        fault(empty(), "hen carriedboy", 4);
        fault(empty(), "hen;henhen", 4);
        reads(empty(), "hen loft5aged7carried boy;corn9", 2);
        fault(empty(), "harvest 00", 10);
        reads(empty(), "harvest 0 0", 1);
        fault(empty(), "harvest 1 2 3", 12);
        words(0, "another WORD");
        for (String word : WORDS) {
            otherWords("", word, "");
        }
        otherWords("", "harvest", " 0 0");
        otherWords("", "corn", " 0");
        otherWords("hen;", "strike", " 0");
        otherWords("hen ", "loft", " 0");
        otherWords("hen;hen ", "from", " 0");
        otherWords("hen ", "aged", " 0");
        otherWords("hen ", "carried", "");
        otherWords("hen ", "boy", "");
        words(0, "the first byte of the first TOKEN that can't stand there");
        String[] awaiting = {"hen loft ", "hen;hen from ", "hen aged ", "harvest ", "harvest 0 ", "corn ", "hen;strike "};
        for (String before : awaiting) {
            for (String token : new String[] {"hen", "x", "corn", "boy", ";", ";hen", "#", "-1", "+1", ".5"}) {
                fault(empty(), before + token, before.length());
                fault(empty(), before + token + " 1", before.length());
            }
        }
        for (String token : new String[] {"7", "0", "9999", "10000", "x", "harvest", "corn", "strike", "#"}) {
            fault(empty(), "hen " + token, 4);
            fault(empty(), "corn 1 " + token, 7);
            fault(empty(), "hen boy " + token, 8);
        }
        for (String token : new String[] {"7", "0", "loft", "from", "aged", "carried", "boy", "#"}) {
            fault(empty(), token, 0);
            fault(empty(), "hen;" + token, 4);
        }
        words(0, "TEXT: ITEM { ; ITEM }.");
        fault(empty(), ";", 0);
        fault(empty(), ";hen", 0);
        fault(empty(), "hen;;hen", 4);
        fault(empty(), "hen ; ; hen", 6);
        fault(empty(), "hen hen", 4);
        fault(empty(), "corn 1 corn 2", 7);
    }

    // One letter other, one letter less, one letter more: at each place of a word that may stand there itself.
    private static void otherWords(String before, String word, String behind) {
        reads(empty(), before + word + behind, (before + word).split(";").length);
        for (int i = 0; i <= word.length(); i++) {
            String head = before + word.substring(0, i);
            fault(empty(), head + "q" + word.substring(i) + behind, before.length());
            if (i < word.length()) {
                fault(empty(), head + "q" + word.substring(i + 1) + behind, before.length());
                fault(empty(), head + word.substring(i + 1) + behind, before.length());
                fault(empty(), head + (char) (word.charAt(i) - 32) + word.substring(i + 1) + behind, before.length());
            }
        }
    }

    private static void reads(Books books, String text, long items) {
        Books fed = books.and("wipe");
        if (!text.isEmpty()) {
            fed = fed.and("tape " + text);
        }
        long found = books.machine().ask("status -1");
        fed.answers("text", items).and("text").answers("count 5", 0).answers("status -1", found);
    }

    private static void fault(Books books, String text, int place) {
        reads(books, text, -1L - place);
        Books before = books.and("wipe");
        Books behind = before.and(text.isEmpty() ? "wipe" : "tape " + text).and("text");
        for (int part = 0; part < PARTS; part++) {
            same("'" + text + "' changed nothing, part " + part, probe(behind.machine(), part), probe(before.machine(), part));
        }
    }

    // ---- spots, sheets

    private static void spots() {
        words(32, "A SPOT holds a BIRD, or nothing (-1): 1. BEYOND.");
        rich().range("hold # 2", 0, 9).range("hold 5 #", -1, 3).refuses(BEYOND, "hold min max");
        empty().range("hold 0 #", -1, -1);
        eight().does("hold 9 7", 1).answers("as 9 0", 7).does("hold 9 -1", 1).answers("as 9 0", MISSING);
        Books all = rich();
        for (int spot = 0; spot < 10; spot++) {
            all.does("hold " + spot + " 0", 1);
        }
        all.answers("count 7", 10);
        for (int spot = 0; spot < 10; spot++) {
            all.does("hold " + spot + " -1", 1).answers("count 7", 9 - spot);
        }

        words(33, "What a SPOT holds as one of a kind (0 to 6): the number of the BIRD. BEYOND. MISSING: it holds nothing. KIND:"
            + " it isn't of that kind, nor of one under it.");
        rich().outside("as 0 #", 0, 6).outside("as # 0", 0, 9).refuses(BEYOND, "as min max");
        rich().outside("as 1 #", 0, 6).outside("as # 6", 0, 9).refuses(MISSING, "as 1 0").refuses(MISSING, "as 1 6");
        rich().and("hold 9 -1").refuses(MISSING, "as 9 0").refuses(BEYOND, "as 9 7").refuses(BEYOND, "as 9 -1");
        int[] is = {1, 1 + 2, 1 + 4, 1 + 4 + 8, 1 + 4 + 8 + 16, 1 + 32, 1 + 2 + 64};
        for (int kind = 0; kind < 7; kind++) {
            Books one = rich().and("bird " + kind + " 0", "hold 5 4");
            for (int as = 0; as < 7; as++) {
                if ((is[kind] >> as & 1) == 1) {
                    one.tells("as 5 " + as, 4);
                } else {
                    one.refuses(KIND, "as 5 " + as);
                }
            }
        }
    }

    private static void sheets() {
        words(34, "A sheet has n numbers, all 0, of 8, 16 or 32 bits; bits 0: it is MISSING: n (0 if it is MISSING).");
        for (int bits : new int[] {8, 16, 32}) {
            for (int n : new int[] {0, 1, 39, 40}) {
                Books one = rich().does("sheet 0 " + bits + " " + n, n).outside("write 0 # 5", 0, n - 1);
                one.answers("load 0", Math.min(n, 6)).permits("fits 0 0");
                if (n > 0) {
                    one.answers("write 0 " + (n - 1) + " 5", 1).and("load 0").answers("listed 0", 0);
                }
            }
        }
        for (int n : new int[] {0, 1, 40}) {
            rich().does("sheet 0 0 " + n, 0).refuses(MISSING, "load 0").refuses(MISSING, "write 0 0 0").does("sheet 0 0 0", 0);
        }

        words(34, "BEYOND: no such sheet, other bits. SIZE: n is below 0 (also with bits 0). BEYOND: n is above 40.");
        rich().range("sheet # 8 3", 0, 3);
        for (int bits : new int[] {-32, -16, -8, -1, 1, 2, 4, 7, 9, 12, 15, 17, 24, 31, 33, 40, 64, 264, Integer.MIN_VALUE,
            Integer.MAX_VALUE, Integer.MIN_VALUE + 8}) {
            rich().refuses(BEYOND, "sheet 0 " + bits + " 3").refuses(BEYOND, "sheet 0 " + bits + " -1");
            rich().refuses(BEYOND, "sheet 0 " + bits + " 41").refuses(BEYOND, "sheet 3 " + bits + " 0");
        }
        for (int bits : new int[] {0, 8, 16, 32}) {
            for (String n : new String[] {"-1", "-2", "-40", "-41", "min"}) {
                rich().refuses(SIZE, "sheet 0 " + bits + " " + n).refuses(SIZE, "sheet 3 " + bits + " " + n);
                rich().refuses(BEYOND, "sheet 4 " + bits + " " + n).refuses(BEYOND, "sheet -1 " + bits + " " + n);
            }
            for (String n : new String[] {"41", "42", "256", "65536", "max"}) {
                rich().refuses(BEYOND, "sheet 0 " + bits + " " + n).refuses(BEYOND, "sheet 3 " + bits + " " + n);
            }
            rich().permits("sheet 3 " + bits + " 40");
            rich().permits("sheet 0 " + bits + " 0");
        }
        writing();
    }

    private static void writing() {
        words(35, "Number i of a sheet becomes v (its lowest bits): 1. BEYOND: no such sheet. MISSING. BEYOND: no such number.");
        rich().range("write 0 # 5", 0, 2).range("write 1 # 5", 0, 1).range("write 2 # 5", 0, 0).outside("write # 0 5", 0, 3);
        rich().and("sheet 3 8 40").range("write 3 # 5", 0, 39).range("write # 0 5", 0, 3);
        rich().and("sheet 3 8 0").outside("write 3 # 0", 0, -1).refuses(BEYOND, "write 3 0 0");
        rich().refuses(MISSING, "write 3 0 0").refuses(MISSING, "write 3 -1 0").refuses(MISSING, "write 3 max min");
        rich().refuses(BEYOND, "write 4 0 0").refuses(BEYOND, "write -1 -1 0").refuses(BEYOND, "write min min min");
        // What is written, by bits: told by judge() where it is 0 or more, by kinds() where it is -1, by neither else.
        int[] values = {0, 9, 127, 128, 255, 256, 265, 9999, 32767, 32768, 65535, 65536, 65545, 16777216, -1, -128, -129, -256,
            -65536, -65527, Integer.MAX_VALUE, Integer.MIN_VALUE, Integer.MIN_VALUE + 9};
        for (int bits : new int[] {8, 16, 32}) {
            for (int v : values) {
                int held = bits == 8 ? (byte) v : bits == 16 ? (short) v : v;
                Books one = new Books("bird 0 0", "sheet 0 " + bits + " 1").does("write 0 0 " + v, 1);
                if (held >= 0 && held <= 9999) {
                    one.and("change 0 7 " + held).tells("judge 0", 0);
                } else {
                    one.tells("judge 0", 1);
                }
                one.tells("kinds 0 0", held == -1 || held == 0 ? 127 : 0);
                one.answers("load 0", held >= 0 && held <= 99 ? 1 : 0);
            }
        }
    }

    private static void copying() {
        words(36, "BEYOND: no such sheet (either). MISSING: one is. KIND: they are not of as many bits. BEYOND: one has not so"
            + " many, or from, to or n is below 0.");
        Books two = rich().and("sheet 1 8 5");
        two.outside("copy # 0 1 0 1", 0, 3).outside("copy 0 0 # 0 1", 0, 3).refuses(BEYOND, "copy 4 0 -1 0 1");
        two.refuses(BEYOND, "copy 3 0 4 0 1").refuses(BEYOND, "copy 4 0 3 0 1").refuses(BEYOND, "copy 2 0 4 0 -1");
        two.refuses(MISSING, "copy 3 0 0 0 1").refuses(MISSING, "copy 0 0 3 0 1").refuses(MISSING, "copy 3 0 3 0 0");
        two.refuses(MISSING, "copy 3 -1 0 0 1").refuses(MISSING, "copy 2 0 3 min max").refuses(MISSING, "copy 0 0 3 0 -1");
        two.refuses(KIND, "copy 0 0 2 0 1").refuses(KIND, "copy 2 0 0 0 0").refuses(KIND, "copy 0 min 2 max -1");
        rich().refuses(KIND, "copy 0 0 1 0 1").refuses(KIND, "copy 1 0 2 0 1").refuses(KIND, "copy 2 0 1 9 9");
        two.range("copy 0 # 1 0 1", 0, 2).range("copy 0 0 1 # 1", 0, 4).range("copy 0 0 1 0 #", 0, 3);
        two.range("copy 1 0 0 0 #", 0, 3).range("copy 1 0 1 0 #", 0, 5).range("copy 1 # 0 0 3", 0, 2);
        two.range("copy 0 0 1 # 3", 0, 2).range("copy 1 # 1 0 2", 0, 3).range("copy 0 # 1 0 0", 0, 3);
        two.range("copy 0 0 1 # 0", 0, 5).range("copy 0 1 1 0 #", 0, 2).range("copy 0 0 1 3 #", 0, 2);
        for (String odd : new String[] {"max max max", "max 0 max", "1 0 max", "0 1 max", "max 0 1", "0 max 1", "min 0 min",
            "-1 -1 -1", "max max 1", "max 0 2", "0 max 2", "min min 0", "-1 0 2", "0 -1 2", "3 0 -1", "0 3 -1"}) {
            String[] part = odd.split(" ");
            two.refuses(BEYOND, "copy 0 " + part[0] + " 1 " + part[1] + " " + part[2]);
        }
        Books none = rich().and("sheet 0 8 0", "sheet 1 8 0");
        none.range("copy 0 # 1 0 0", 0, 0).range("copy 0 0 1 # 0", 0, 0).range("copy 0 0 1 0 #", 0, 0);
        Books whole = empty().and("sheet 0 32 40", "sheet 1 32 40", "write 0 39 7", "write 0 0 8");
        whole.does("copy 0 0 1 0 40", 40).refuses(BEYOND, "copy 0 0 1 0 41").refuses(BEYOND, "copy 0 1 1 0 40");
        whole.and("copy 1 39 1 0 1", "load 1").answers("listed 0", 7).answers("listed 1", 0);
        whole.and("load 1").answers("listed 0", 8).and("copy 1 39 0 0 1", "load 0").answers("listed 0", 7);

        words(36, "n numbers of a sheet from one on come to another one from one on (as they all were): n.");
        Books row = empty().and("sheet 0 8 6");
        for (int i = 0; i < 6; i++) {
            row = row.and("write 0 " + i + " " + (i + 1));
        }
        list(row.does("copy 0 0 0 1 5", 5).and("load 0"), 1, 1, 2, 3, 4, 5);
        list(row.and("load 0"), 1, 1, 2, 3, 4, 5);
        list(row.and("copy 0 1 0 0 5", "load 0"), 1, 2, 3, 4, 5, 5);
        list(row.and("copy 0 0 0 0 6", "load 0"), 1, 1, 2, 3, 4, 5);
        list(row.and("copy 0 5 0 0 1", "load 0"), 5, 1, 2, 3, 4, 5);
        list(row.and("copy 0 2 0 4 0", "load 0"), 1, 1, 2, 3, 4, 5);
    }

    private static void list(Books books, int... harvests) {
        for (int i = 0; i < 6; i++) {
            books.answers("listed " + i, harvests[i]);
        }
    }

    private static void loading() {
        words(37, "It ends at the first that isn't 0 to 99, or for which there is no place. BEYOND: no such sheet. MISSING.");
        rich().outside("load #", 0, 3).refuses(MISSING, "load 3").permits("load 0");
        rich().and("sheet 3 8 0").permits("load 3");
        Books list = rich().and("wipe", "sheet 0 16 7");
        list(list.does("load 0", 6), 0, 0, 0, 0, 0, 0);
        list = rich().and("sheet 0 16 8");
        for (int i = 0; i < 8; i++) {
            list = list.and("write 0 " + i + " " + (20 + i));
        }
        list.answers("load 0", 6);
        list(list.and("load 0"), 20, 21, 22, 23, 24, 25);
        for (int bad : new int[] {-1, 100, 101, 256, -32768, 32767}) {
            for (int place = 0; place < 6; place++) {
                Books ends = list.and("write 0 " + place + " " + bad);
                ends.answers("load 0", place);
                int[] due = {11, 12, 77, 14, 15, 16};
                for (int i = 0; i < place; i++) {
                    due[i] = 20 + i;
                }
                list(ends.and("load 0"), due);
            }
            list.and("write 0 6 " + bad).answers("load 0", 6);
        }
        for (int good : new int[] {0, 1, 98, 99}) {
            list.and("write 0 5 " + good).answers("load 0", 6).and("load 0").answers("listed 5", good);
        }
        for (int n = 0; n <= 6; n++) {
            rich().and("sheet 0 8 " + n).answers("load 0", n);
        }
        rich().and("sheet 0 8 40").answers("load 0", 6);

        words(38, "numbers of a sheet are what BIRDS 0, 1, .. are OWED: 0 if so; else 1 and the place of the first that isn't so."
            + " BEYOND: no such sheet. MISSING.");
        rich().outside("judge #", 0, 3).refuses(MISSING, "judge 3").tells("judge 0", 1).tells("judge 2", 1);
        rich().and("sheet 3 8 0").tells("judge 3", 0);
        empty().and("sheet 0 8 0").tells("judge 0", 0).and("sheet 0 8 1").tells("judge 0", 1);
        Books crowd = empty().and("sheet 0 16 8");
        for (int b = 0; b < 8; b++) {
            crowd = crowd.and("bird 0 0", "change " + b + " 7 " + (9992 + b), "write 0 " + b + " " + (9992 + b));
        }
        crowd.tells("judge 0", 0);
        for (int b = 0; b < 8; b++) {
            crowd.and("write 0 " + b + " -1").tells("judge 0", 1 + b).and("write 0 7 0").tells("judge 0", 1 + b);
            crowd.and("change " + b + " 7 0").tells("judge 0", 1 + b);
        }
        crowd.and("sheet 1 16 9", "copy 0 0 1 0 8").tells("judge 1", 9);
        crowd.and("sheet 1 16 7", "copy 0 0 1 0 7").tells("judge 1", 0);
        crowd.and("sheet 1 16 40", "copy 0 0 1 0 8").tells("judge 1", 9);
    }

    // ---- images

    private static void images() {
        words(39, "All but THE TAPE and SHEETS is kept: 1.");
        rich().answers("image", 1).and("image").answers("undo", 2).answers("now 1", 70).answers("count 5", 18);
        empty().does("image", 1).does("image", 1).does("undo", 0).answers("tear", 1);
        Books kept = eight().and("wipe", "image");
        Books changed = kept.and("go 60", "corn 5", "harvest 0 1", "seed 9", "change 7 0 5", "change 7 1 1", "change 7 2 -1",
            "change 7 3 9", "change 7 4 1", "change 7 5 1", "change 7 6 1", "change 7 7 9", "change 7 8 9", "hold 0 -1",
            "hold 1 7", "sheet 3 8 2", "sheet 0 0 0", "tape corn 5");
        Books undone = changed.and("undo");
        same("undo gives the state back", probe(undone.and("wipe").machine(), 0), probe(kept.machine(), 0));
        same("the sheets stay", probe(undone.machine(), 1), probe(changed.and("undo", "undo").machine(), 1));
        undone.answers("count 5", 6).refuses(MISSING, "load 0").answers("write 3 1 5", 1).answers("text", 1);

        words(40, "It becomes what was kept latest (which stays): DAY. NONE: nothing is kept.");
        empty().refuses(NONE, "undo").and("bird 0 0", "go 5").refuses(NONE, "undo");
        rich().answers("undo", 0).and("tear").refuses(NONE, "undo");
        Books twice = empty().and("go 3", "image", "go 4", "image", "go 5");
        twice.does("undo", 7).does("undo", 7).does("go 1", 0).does("undo", 7).does("tear", 1).refuses(NONE, "undo");
        empty().and("image", "bird 0 0", "change 0 7 9", "hold 3 0", "undo").answers("count 1", 0).answers("count 7", 0)
            .refuses(BEYOND, "of 0 0").refuses(MISSING, "as 3 0").and("bird 1 1").answers("of 0 7", 0).answers("count 1", 1);
        eight().and("undo").answers("count 1", 4).answers("bird 0 0", 4);
        eight().and("image", "undo").refuses(FULL, "bird 0 0");
        boy().and("far", "go 39", "image", "undo").answers("count 0", 99999).refuses(STATE, "go 1");

        words(41, "Nothing is kept: 1 if something was, else 0.");
        empty().tells("tear", 0).and("image").answers("tear", 1).and("tear").tells("tear", 0).refuses(NONE, "undo");
        empty().and("image", "image", "tear").tells("tear", 0).and("image").answers("tear", 1);
        empty().and("image", "undo").answers("tear", 1);

        words(42, "7 SPOTS that hold something. BEYOND: another what.");
        rich().range("count #", 0, 7).tells("count 7", 3).tells("count 5", 18).tells("count 6", 4242);
        empty().and("seed " + SIZE).tells("count 6", SIZE);

        words(43, "How many acts answered a finding ever (undo() takes none back): which -1: all, 0 to 6: BEYOND to SIZE."
            + " BEYOND (counted from then on): another one.");
        rich().range("status #", -1, 6);
        empty().does("status 7", BEYOND).answers("status 0", 1).answers("status -1", 1).does("status -2", BEYOND)
            .answers("status 0", 2).does("status min", BEYOND).does("status max", BEYOND).answers("status -1", 4);
        empty().and("image", "listed 6", "undo").answers("status 0", 1).and("tear", "undo").answers("status 3", 1)
            .answers("status -1", 2);
        Books all = eight().and("change 0 3 81", "listed 6", "bird 0 0", "as 0 6", "tear", "undo", "as 1 0", "sheet 0 0 -1");
        int[] due = {1, 1, 1, 1, 0, 1, 1};
        for (int which = 0; which < 7; which++) {
            all.tells("status " + which, due[which]);
        }
        all.tells("status -1", 6);
        rich().and("change 0 3 81", "hatch 0 0").tells("status 4", 1).tells("status -1", 1);
    }

    // An object is used for 512 calls: the last of them is answered as the first.
    private static void calls() {
        words(0, "An object is used for at most 512 calls after it has been made");
        Machine m = new Machine();
        for (int i = 0; i < 510; i++) {
            m.ask("listed -1");
        }
        same("the 511th call", m.ask("go 60"), 0L);
        same("the 512th call", m.ask("status -1"), 510L);
    }

    public static void main(String[] args) throws Exception {
        for (Method call : PigeonRolls.class.getDeclaredMethods()) {
            if (java.lang.reflect.Modifier.isPublic(call.getModifiers())) {
                CALLS.put(call.getName(), call);
            }
        }
        Path told = Path.of("../shared/DOC.md");
        document = Files.isReadable(told) ? Files.readString(told) : null;
        terms();
        kingdom();
        going();
        ahead();
        striking();
        arrears();
        hatchings();
        tape();
        texts();
        spots();
        sheets();
        copying();
        loading();
        images();
        calls();
        for (int promise = 1; promise <= 43; promise++) {
            sentence = "promise " + promise;
            same("whether a sentence of it is tested", PROMISES.contains(promise), true);
        }
        System.out.println(sentences + " sentences, " + asked + " answers, " + wrong + " not as due");
        if (wrong != 0) {
            System.exit(1);
        }
    }
}
