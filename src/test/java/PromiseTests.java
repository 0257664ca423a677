import java.nio.charset.StandardCharsets;

/** Each promise of the document, with answers reckoned by hand from its words. */
public final class PromiseTests {
    private static final int BEYOND = -1000001;
    private static final int FULL = -1000002;
    private static final int KIND = -1000003;
    private static final int NONE = -1000004;
    private static final int STATE = -1000005;
    private static final int MISSING = -1000006;
    private static final int SIZE = -1000007;

    private static int promise = 0;
    private static int asked = 0;
    private static int wrong = 0;

    private static void due(String call, long got, long want) {
        asked++;
        if (got != want) {
            wrong++;
            System.out.println("promise " + promise + ": " + call + " answered " + got + ", due is " + want);
        }
    }

    private static void feed(PigeonRolls x, String text) {
        for (byte b : text.getBytes(StandardCharsets.ISO_8859_1)) {
            x.feed(b, 1);
        }
    }

    private static int text(PigeonRolls x, String text) {
        feed(x, text);
        return x.text();
    }

    private static PigeonRolls told(String... texts) {
        PigeonRolls x = new PigeonRolls();
        for (String t : texts) {
            int items = text(x, t);
            if (items < 1) {
                due("text of a test: " + t, items, t.split(";").length);
            }
        }
        return x;
    }

    private static void list(PigeonRolls x, int... harvests) {
        for (int i = 0; i < harvests.length; i++) {
            x.harvest(i, harvests[i]);
        }
    }

    private static void row(PigeonRolls x, int s, int bits, int... numbers) {
        x.sheet(s, bits, numbers.length);
        for (int i = 0; i < numbers.length; i++) {
            x.write(s, i, numbers[i]);
        }
    }

    /** A number for all that calls tell, so that a test sees whether a call changed anything. */
    private static long all(PigeonRolls x) {
        long h = 17;
        for (int i = 0; i < 8; i++) {
            h = h * 31 + x.count(i);
        }
        for (int i = 0; i < 6; i++) {
            h = h * 31 + x.listed(i);
        }
        for (int b = 0; b < x.count(1); b++) {
            for (int what = 0; what < 14; what++) {
                h = h * 31 + x.of(b, what);
            }
        }
        return h;
    }

    private static void newObject() {
        PigeonRolls x = new PigeonRolls();
        for (int which = -1; which < 7; which++) {
            due("status(" + which + ")", x.status(which), 0);
        }
        for (int what = 0; what < 8; what++) {
            due("count(" + what + ")", x.count(what), what == 6 ? 1 : 0);
            due("now(" + what + ")", x.now(what), 0);
        }
        for (int i = 0; i < 6; i++) {
            due("listed(" + i + ")", x.listed(i), 0);
            due("loft(" + i + ")", x.loft(i), 0);
        }
        for (int s = 0; s < 4; s++) {
            due("load(" + s + ")", x.load(s), MISSING);
        }
        for (int spot = 0; spot < 10; spot++) {
            due("as(" + spot + ", 0)", x.as(spot, 0), MISSING);
        }
        due("undo()", x.undo(), NONE);
        due("wipe()", x.wipe(), 0);
    }

    private static void harvest() {
        PigeonRolls x = new PigeonRolls();
        due("harvest(2, 45)", x.harvest(2, 45), 0);
        due("harvest(2, 99)", x.harvest(2, 99), 45);
        due("harvest(0, 7)", x.harvest(0, 7), 0);
        due("harvest(5, 8)", x.harvest(5, 8), 0);
        long before = all(x);
        due("harvest(-1, 0)", x.harvest(-1, 0), BEYOND);
        due("harvest(6, 0)", x.harvest(6, 0), BEYOND);
        due("harvest(2, -1)", x.harvest(2, -1), BEYOND);
        due("harvest(2, 100)", x.harvest(2, 100), BEYOND);
        due("harvest(min, max)", x.harvest(Integer.MIN_VALUE, Integer.MAX_VALUE), BEYOND);
        due("nothing changed", all(x), before);
        due("harvest(2, 0)", x.harvest(2, 0), 99);
    }

    private static void listed() {
        PigeonRolls x = new PigeonRolls();
        list(x, 1, 2, 3, 4, 5, 99);
        due("listed(0)", x.listed(0), 1);
        due("listed(4)", x.listed(4), 5);
        due("listed(5)", x.listed(5), 99);
        due("listed(-1)", x.listed(-1), BEYOND);
        due("listed(6)", x.listed(6), BEYOND);
    }

    private static void corn() {
        PigeonRolls x = new PigeonRolls();
        due("corn(99999)", x.corn(99999), 0);
        due("corn(100000)", x.corn(100000), BEYOND);
        due("corn(-1)", x.corn(-1), BEYOND);
        due("corn(0)", x.corn(0), 99999);
        due("corn(12)", x.corn(12), 0);
        due("now(1)", x.now(1), 12);
    }

    private static void bird() {
        PigeonRolls x = new PigeonRolls();
        due("bird(7, 0)", x.bird(7, 0), BEYOND);
        due("bird(-1, 0)", x.bird(-1, 0), BEYOND);
        due("bird(0, 6)", x.bird(0, 6), BEYOND);
        due("bird(0, -1)", x.bird(0, -1), BEYOND);
        for (int i = 0; i < 8; i++) {
            due("bird", x.bird(i % 7, i % 6), i);
            due("kind", x.of(i, 0), i % 7);
            due("loft", x.of(i, 1), i % 6);
            due("from", x.of(i, 2), -1);
            for (int what = 3; what < 9; what++) {
                due("of(" + i + ", " + what + ")", x.of(i, what), 0);
            }
        }
        due("a ninth", x.bird(0, 0), FULL);
        due("a ninth of no kind", x.bird(7, 0), BEYOND);
        due("count(1)", x.count(1), 8);
    }

    private static void hatch() {
        PigeonRolls x = new PigeonRolls();
        due("hatch(0, 0)", x.hatch(0, 0), BEYOND);
        x.bird(1, 4);
        x.change(0, 4, 1);
        x.change(0, 7, 33);
        due("hatch(0, 7)", x.hatch(0, 7), BEYOND);
        due("hatch(0, -1)", x.hatch(0, -1), BEYOND);
        due("hatch(-1, 0)", x.hatch(-1, 0), BEYOND);
        due("hatch(0, 3)", x.hatch(0, 3), 1);
        due("kind", x.of(1, 0), 3);
        due("loft", x.of(1, 1), 4);
        due("from", x.of(1, 2), 0);
        due("carried", x.of(1, 4), 0);
        due("owed", x.of(1, 7), 0);
        x.change(0, 3, 80);
        due("of one that lives just", x.hatch(0, 2), 2);
        x.change(0, 3, 81);
        due("of a dead one", x.hatch(0, 2), STATE);
        due("of a dead one, no kind", x.hatch(0, 7), BEYOND);
        for (int i = 3; i < 8; i++) {
            x.bird(0, 0);
        }
        PigeonRolls y = told("hen");
        due("hatch(0, 6)", y.hatch(0, 6), 1);
        due("kind", y.of(1, 0), 6);
        due("a ninth of a dead one", x.hatch(0, 2), FULL);
        due("a ninth of nobody", x.hatch(8, 2), BEYOND);
        due("count(1)", x.count(1), 8);
    }

    private static void of() {
        PigeonRolls x = new PigeonRolls();
        int[] kinds = {0, 1, 2, 3, 4, 5, 6};
        int[] lofts = {1, 1, 1, 2, 3, 2, 1};
        int[] lives = {60, 80, 50, 100, 200, 9999, 100};
        int[] rates = {10, 8, 14, 24, 12, 3, 8};
        int[] eats = {0, 0, 0, 1, 3, 0, 0};
        x.corn(100);
        for (int i = 0; i < 7; i++) {
            x.bird(kinds[i], lofts[i]);
        }
        for (int i = 0; i < 7; i++) {
            due("LIVES of " + i, x.of(i, 9), lives[i]);
            due("RATE of " + i, x.of(i, 10), rates[i]);
            due("EATS of " + i, x.of(i, 11), eats[i]);
            due("LINE of " + i, x.of(i, 12), 0);
            due("DRAWS of " + i, x.of(i, 13), 0);
        }
        x.corn(169);
        due("an eagle's rate less 16", x.of(4, 10), 6);
        x.corn(1000);
        due("an eagle's least rate", x.of(4, 10), 5);
        x.corn(9);
        due("an eagle's rate less 0", x.of(4, 10), 22);
        x.go(1);
        due("a jackdaw eats on odd days", x.of(5, 11), 1);
        x.go(1);
        due("a jackdaw eats not on even days", x.of(5, 11), 0);
        due("hatch(6, 0)", x.hatch(6, 0), 7);
        due("a widow's rate with one child", x.of(6, 10), 12);
        due("a cock's rate with five in the loft", x.of(2, 10), 15);
        x.change(7, 3, 60);
        due("a child that lives just", x.of(6, 10), 12);
        x.change(7, 3, 61);
        due("a widow's rate, the child dead", x.of(6, 10), 8);
        due("the dead count in a loft", x.of(2, 10), 15);
        lineAndDraws(x);
        due("of(-1, 0)", x.of(-1, 0), BEYOND);
        due("of(8, 0)", x.of(8, 0), BEYOND);
        due("of(0, -1)", x.of(0, -1), BEYOND);
        due("of(0, 14)", x.of(0, 14), BEYOND);
    }

    private static void lineAndDraws(PigeonRolls x) {
        x.change(6, 4, 1);
        due("a carrier is of the line", x.of(6, 12), 1);
        due("a carrier draws", x.of(6, 13), 1);
        due("its dead child is of the line", x.of(7, 12), 1);
        due("its dead child draws not", x.of(7, 13), 0);
        x.change(7, 5, 1);
        due("it draws by a boy", x.of(7, 13), 1);
        x.change(7, 6, 1);
        due("struck off, no boy helps", x.of(7, 13), 0);
        x.change(7, 6, 0);
        x.change(7, 5, 0);
        x.change(7, 3, 0);
        x.change(6, 6, 1);
        x.change(6, 3, 101);
        due("of a dead parent that is off: of the line", x.of(7, 12), 1);
        due("of a dead parent that is off: draws", x.of(7, 13), 1);
        due("the parent draws not", x.of(6, 13), 0);
        x.change(0, 5, 1);
        due("not of the line, with a boy", x.of(0, 13), 1);
        due("a boy makes no line", x.of(0, 12), 0);
    }

    private static void change() {
        PigeonRolls x = new PigeonRolls();
        due("change(0, 1, 3)", x.change(0, 1, 3), BEYOND);
        x.bird(0, 0);
        x.bird(0, 0);
        x.bird(1, 2);
        int[] most = {6, 5, 1, 9999, 1, 1, 1, 9999, 9999};
        int[] was = {1, 2, -1, 0, 0, 0, 0, 0, 0};
        for (int what = 0; what < 9; what++) {
            int least = what == 2 ? -1 : 0;
            due("change(2, " + what + ") above", x.change(2, what, most[what] + 1), BEYOND);
            due("change(2, " + what + ") below", x.change(2, what, least - 1), BEYOND);
            due("change(2, " + what + ") most", x.change(2, what, most[what]), was[what]);
            due("of", x.of(2, what), most[what]);
            due("change(2, " + what + ") least", x.change(2, what, least), most[what]);
            due("of", x.of(2, what), least);
        }
        due("change(0, 2, 0)", x.change(0, 2, 0), BEYOND);
        due("change(0, 2, -1)", x.change(0, 2, -1), -1);
        due("change(0, 9, 0)", x.change(0, 9, 0), BEYOND);
        due("change(0, -1, 0)", x.change(0, -1, 0), BEYOND);
        due("change(3, 0, 0)", x.change(3, 0, 0), BEYOND);
        due("change(-1, 0, 0)", x.change(-1, 0, 0), BEYOND);
    }

    private static void loft() {
        PigeonRolls x = told("hen loft 1;hen;cock loft 1 aged 99;duke loft 5");
        due("loft(0)", x.loft(0), 2);
        due("loft(1)", x.loft(1), 5);
        due("loft(2)", x.loft(2), 0);
        due("loft(5)", x.loft(5), 8);
        due("loft(6)", x.loft(6), BEYOND);
        due("loft(-1)", x.loft(-1), BEYOND);
    }

    private static void issue() {
        PigeonRolls x = told("hen;hen from 0;hen;hen from 1;hen from 2;hen from 3;hen from 0 aged 99");
        due("issue(0)", x.issue(0), 1 + 2 + 8 + 32 + 64);
        due("issue(1)", x.issue(1), 2 + 8 + 32);
        due("issue(2)", x.issue(2), 4 + 16);
        due("issue(6)", x.issue(6), 64);
        due("issue(7)", x.issue(7), BEYOND);
        due("issue(-1)", x.issue(-1), BEYOND);
    }

    private static void go() {
        PigeonRolls x = told("bird carried;harvest 5 4;corn 3");
        due("go(0)", x.go(0), BEYOND);
        due("go(61)", x.go(61), BEYOND);
        due("go(-1)", x.go(-1), BEYOND);
        due("go(5)", x.go(5), 3);
        due("paid before the quarter's end", x.of(0, 8), 0);
        due("go(1)", x.go(1), 0);
        due("owed", x.of(0, 7), 3);
        due("paid", x.of(0, 8), 7);
        due("age", x.of(0, 3), 6);
        due("day", x.now(0), 6);
        due("go(6)", x.go(6), 0);
        due("owed", x.of(0, 7), 9);
        due("paid", x.of(0, 8), 11);
        x.corn(50);
        due("go(6)", x.go(6), 50 + 4 - 19);
        due("owed", x.of(0, 7), 0);
        due("paid", x.of(0, 8), 30);
        due("go(60): it dies behind seven quarters", x.go(60), 12);
        x = atDay99960();
        due("go(40)", x.go(40), STATE);
        due("nothing changed", x.now(0), 99960);
        due("go(39)", x.go(39), 0);
        due("now(0)", x.now(0), 99999);
        due("go(1)", x.go(1), STATE);
        due("go(61)", x.go(61), BEYOND);
        dayByNumbers();
        dayLimits();
    }

    // More calls than an object is promised for: STATE can't be come by with fewer, but its words can be held.
    private static PigeonRolls atDay99960() {
        PigeonRolls x = new PigeonRolls();
        for (int i = 0; i < 1666; i++) {
            x.go(60);
        }
        return x;
    }

    private static void dayByNumbers() {
        PigeonRolls x = told("bird carried;bird;hen carried;corn 15");
        due("go(6)", x.go(6), 0);
        due("the first is paid", x.of(0, 8), 10);
        due("one that draws not", x.of(1, 7), 0);
        due("the last gets the rest", x.of(2, 8), 5);
        due("and is owed", x.of(2, 7), 3);
        x = told("bird carried;eagle loft 1 carried;corn 100");
        due("an eagle's rate is asked in its turn", x.go(6), 57);
        due("its pay", x.of(1, 8), 15);
        x = told("jackdaw carried;corn 50;harvest 0 1;harvest 1 2;harvest 2 3;harvest 3 4;harvest 4 5;harvest 5 6");
        due("go(1)", x.go(1), 51);
        due("go(1) on an odd day", x.go(1), 52);
        due("go(1)", x.go(1), 55);
        due("go(1) on an odd day", x.go(1), 58);
        due("go(1)", x.go(1), 63);
        due("go(1) at the quarter's end", x.go(1), 65);
        due("go(1), the first place anew", x.go(1), 66);
    }

    private static void dayLimits() {
        PigeonRolls x = told("bird aged 54 carried;corn 90");
        due("it lives at the quarter's end", x.go(6), 80);
        x = told("bird aged 55 carried;corn 90");
        due("it dies before its pay", x.go(6), 90);
        x = told("duke aged 100 carried;corn 10");
        due("it eats before it is older", x.go(1), 9);
        due("the dead eat nothing", x.go(1), 9);
        x = told("eagle carried;corn 2");
        due("no less than 0", x.go(1), 0);
        x = told("duke carried;harvest 0 50");
        x.corn(99999);
        due("no more than 99999", x.go(1), 99998);
        x = told("jackdaw aged 9998");
        x.go(2);
        due("no age above 9999", x.of(0, 3), 9999);
        x = told("bird carried");
        x.change(0, 7, 9995);
        x.change(0, 8, 9996);
        x.go(6);
        due("no more owed than 9999", x.of(0, 7), 9999);
        x.corn(20000);
        due("all due is taken", x.go(6), 20000 - 10009);
        due("no more paid than 9999", x.of(0, 8), 9999);
        due("nothing owed", x.of(0, 7), 0);
    }

    private static void now() {
        PigeonRolls x = told("hen carried;cock from 0 aged 51;bird boy;bird;duke loft 1 carried;strike 4;corn 77");
        x.change(1, 7, 40);
        x.change(4, 7, 2);
        x.change(3, 8, 5);
        x.change(0, 8, 6);
        due("now(0)", x.now(0), 0);
        due("now(1)", x.now(1), 77);
        due("now(2)", x.now(2), 1 + 4);
        due("now(3)", x.now(3), 2);
        due("now(4)", x.now(4), 42);
        due("now(5)", x.now(5), 18);
        due("now(6)", x.now(6), 1 + 2 + 16);
        due("now(7)", x.now(7), 11);
        due("now(8)", x.now(8), BEYOND);
        due("now(-1)", x.now(-1), BEYOND);
        x.go(2);
        due("now(0)", x.now(0), 2);
        x.change(0, 3, 100);
        due("now(3)", x.now(3), 1 + 2);
    }

    private static void ahead() {
        PigeonRolls x = told("bird carried;hen aged 79 carried;corn 25");
        long before = all(x);
        due("ahead(0, 8, 0)", x.ahead(0, 8, 0), 0);
        due("ahead(0, 8, 5)", x.ahead(0, 8, 5), 0);
        due("ahead(0, 8, 6)", x.ahead(0, 8, 6), 10);
        due("ahead(0, 8, 100)", x.ahead(0, 8, 100), 25);
        due("ahead(0, 7, 18)", x.ahead(0, 7, 18), 5);
        due("ahead(0, 10, 18)", x.ahead(0, 10, 18), 10);
        due("ahead(1, 13, 1)", x.ahead(1, 13, 1), 1);
        due("ahead(1, 13, 2)", x.ahead(1, 13, 2), 0);
        due("ahead(1, 8, 6)", x.ahead(1, 8, 6), 0);
        due("nothing changed", all(x), before);
        for (int what = -1; what < 16; what++) {
            if (what != 7 && what != 8 && what != 10 && what != 13) {
                due("ahead(0, " + what + ", 1)", x.ahead(0, what, 1), BEYOND);
            }
        }
        due("ahead(0, 7, 101)", x.ahead(0, 7, 101), BEYOND);
        due("ahead(0, 7, -1)", x.ahead(0, 7, -1), BEYOND);
        due("ahead(2, 7, 1)", x.ahead(2, 7, 1), BEYOND);
        PigeonRolls y = told("eagle carried;harvest 0 99");
        due("an eagle's rate ahead", y.ahead(0, 10, 1), 22 - 9);
    }

    private static void budget() {
        PigeonRolls x = told("bird carried;corn 25;harvest 1 3");
        long before = all(x);
        due("budget(0)", x.budget(0), 25);
        due("budget(2)", x.budget(2), 28);
        due("budget(6)", x.budget(6), 18);
        due("budget(100)", x.budget(100), 7 * 3);
        due("budget(101)", x.budget(101), BEYOND);
        due("budget(-1)", x.budget(-1), BEYOND);
        due("nothing changed", all(x), before);
        due("go(6)", x.go(6), 18);
    }

    private static void dies() {
        PigeonRolls x = told("bird;hen aged 80;hen aged 81;eagle;eagle aged 1;jackdaw aged 9999;jackdaw aged 9900");
        due("dies(0)", x.dies(0), 61);
        due("dies(1)", x.dies(1), 1);
        due("dies(2)", x.dies(2), 0);
        due("dies(3)", x.dies(3), NONE);
        due("dies(4)", x.dies(4), 200);
        due("dies(5)", x.dies(5), NONE);
        due("dies(6)", x.dies(6), NONE);
        due("dies(7)", x.dies(7), BEYOND);
        due("dies(-1)", x.dies(-1), BEYOND);
    }

    private static void fails() {
        PigeonRolls x = new PigeonRolls();
        due("with no birds", x.fails(), NONE);
        x = told("bird carried;corn 25");
        long before = all(x);
        due("with 25", x.fails(), 18);
        due("nothing changed", all(x), before);
        x.corn(100);
        due("with enough for its life", x.fails(), NONE);
        x.change(0, 7, 1);
        due("at once", x.fails(), 0);
        x.change(0, 6, 1);
        due("one that is off is somebody", x.fails(), 0);
        x = told("jackdaw carried");
        x.corn(197);
        due("far on, just within", x.fails(), 198);
        x.corn(198);
        due("farther on", x.fails(), NONE);
        x.go(4);
        x.corn(197);
        due("200 itself", x.fails(), 200);
    }

    private static void when() {
        PigeonRolls x = told("bird carried;corn 999");
        long before = all(x);
        due("when(0, 0)", x.when(0, 0), 0);
        due("when(0, 10)", x.when(0, 10), 6);
        due("when(0, 11)", x.when(0, 11), 12);
        due("when(0, 100)", x.when(0, 100), 60);
        due("when(0, 101)", x.when(0, 101), NONE);
        due("when(0, 9999)", x.when(0, 9999), NONE);
        due("when(0, 10000)", x.when(0, 10000), BEYOND);
        due("when(0, -1)", x.when(0, -1), BEYOND);
        due("when(1, 1)", x.when(1, 1), BEYOND);
        due("nothing changed", all(x), before);
        x.go(4);
        due("when(0, 10) on day 4", x.when(0, 10), 2);
        x = told("bird boy");
        x.corn(9999);
        due("the last quarter within 200 days", x.when(0, 330), 198);
        due("the next one", x.when(0, 331), NONE);
        x.go(4);
        due("200 itself", x.when(0, 340), 200);
    }

    private static void ends() {
        PigeonRolls x = new PigeonRolls();
        due("with no birds", x.ends(), 0);
        x = told("bird carried;hen carried;bird");
        due("the hen is last", x.ends(), 81);
        x.change(1, 6, 1);
        due("the hen is off", x.ends(), 61);
        x.change(2, 5, 1);
        due("a boy draws on", x.ends(), NONE);
        x = told("eagle aged 1 carried");
        due("on the 200th", x.ends(), 200);
        x.change(0, 3, 0);
        due("on the 201st", x.ends(), NONE);
        due("nothing changed", x.now(0), 0);
    }

    private static void harvestFor() {
        PigeonRolls x = told("bird carried;hen carried;corn 5");
        long before = all(x);
        due("harvestFor(2, 5)", x.harvestFor(2, 5), 0);
        due("harvestFor(2, 6)", x.harvestFor(2, 6), 13);
        due("harvestFor(5, 12)", x.harvestFor(5, 12), 16);
        due("harvestFor(0, 0)", x.harvestFor(0, 0), 0);
        due("nothing changed", all(x), before);
        due("harvestFor(0, 60)", x.harvestFor(0, 60), 18);
        due("harvestFor(6, 0)", x.harvestFor(6, 0), BEYOND);
        due("harvestFor(-1, 0)", x.harvestFor(-1, 0), BEYOND);
        due("harvestFor(0, 61)", x.harvestFor(0, 61), BEYOND);
        due("harvestFor(0, -1)", x.harvestFor(0, -1), BEYOND);
        x.change(0, 7, 86);
        due("with 99 just", x.harvestFor(3, 6), 99);
        x.change(0, 7, 87);
        due("not even with 99", x.harvestFor(3, 6), NONE);
        x.harvest(3, 40);
        due("what it tells now is put aside", x.harvestFor(3, 0), NONE);
        x.change(0, 7, 0);
        due("what it tells now is put aside", x.harvestFor(3, 6), 13);
    }

    private static void kindFor() {
        PigeonRolls x = told("hen carried");
        due("none gets anything", x.kindFor(0, 6), 0);
        x.corn(9999);
        long before = all(x);
        due("a duke gets most", x.kindFor(0, 6), 3);
        due("in no time all are alike", x.kindFor(0, 0), 0);
        due("nothing changed", all(x), before);
        due("kindFor(0, 61)", x.kindFor(0, 61), BEYOND);
        due("kindFor(0, -1)", x.kindFor(0, -1), BEYOND);
        due("kindFor(1, 0)", x.kindFor(1, 0), BEYOND);
        x.change(0, 3, 99);
        due("who lives as long: an eagle", x.kindFor(0, 6), 4);
        x.change(0, 3, 300);
        due("a jackdaw alone lives", x.kindFor(0, 6), 5);
        x.change(0, 5, 1);
        due("with a boy", x.kindFor(0, 60), 3);
        x = told("bird boy;bird from 0;bird from 0;bird from 0;bird from 0");
        x.change(0, 1, 5);
        x.corn(500);
        x.change(0, 3, 60);
        due("a duke in a loft alone 22, a widow of four 24", x.kindFor(0, 6), 6);
    }

    private static void parentFor() {
        PigeonRolls x = told("hen;hen carried;hen carried;bird from 0;corn 500");
        long before = all(x);
        due("the first that carried", x.parentFor(3, 6), 1);
        due("in no time", x.parentFor(3, 0), 0);
        due("nothing changed", all(x), before);
        due("in the longest time", x.parentFor(3, 60), 1);
        due("no choice", x.parentFor(0, 6), -1);
        due("one choice, though it doesn't help", x.parentFor(1, 6), 0);
        due("parentFor(4, 6)", x.parentFor(4, 6), BEYOND);
        due("parentFor(3, 61)", x.parentFor(3, 61), BEYOND);
        due("parentFor(3, -1)", x.parentFor(3, -1), BEYOND);
        x = told("widow carried;bird from 0 carried;corn 20");
        due("a parent's rate may take the corn", x.parentFor(1, 6), -1);
        due("status(-1)", x.status(-1), 0);
    }

    private static void strike() {
        PigeonRolls x = told("bird carried;hen carried;cock loft 1 carried;corn 21");
        long before = all(x);
        due("strike(5)", x.strike(5), 0);
        due("strike(6): 29 are due, 21 are there", x.strike(6), 1);
        due("nothing changed", all(x), before);
        x.corn(18);
        due("strike(6) with 18", x.strike(6), 4);
        x.corn(9);
        due("strike(6) with 9", x.strike(6), 1 + 4);
        x.corn(3);
        due("strike(6) with 3", x.strike(6), 7);
        due("strike(25)", x.strike(25), BEYOND);
        due("strike(-1)", x.strike(-1), BEYOND);
        x.corn(999);
        due("strike(24) with enough", x.strike(24), 0);
        x.change(1, 7, 5);
        due("who is owed now must go", x.strike(0), 2);
        x.change(1, 6, 1);
        due("though it is off", x.strike(24), 2);
        PigeonRolls y = told("hen;bird carried;bird carried;bird carried;corn 20");
        due("the least number of several", y.strike(6), 2);
        due("strike(12)", y.strike(12), 2 + 4);
    }

    private static void deny() {
        PigeonRolls x = told("hen carried;hen from 0;hen from 1 carried;hen from 2;hen carried;hen;hen from 5");
        due("deny(0)", x.deny(0), 1);
        due("deny(1)", x.deny(1), 1);
        due("deny(3)", x.deny(3), 1 + 4);
        due("deny(4)", x.deny(4), 16);
        due("deny(6)", x.deny(6), 0);
        due("deny(7)", x.deny(7), BEYOND);
        due("deny(-1)", x.deny(-1), BEYOND);
        due("nothing changed", x.now(6), 1 + 2 + 4 + 8 + 16);
    }

    private static void fits() {
        PigeonRolls x = told("bird carried");
        due("no such sheet, no such bird", x.fits(4, 9), BEYOND);
        due("no such sheet", x.fits(-1, 0), BEYOND);
        due("missing, no such bird", x.fits(0, 9), MISSING);
        x.sheet(0, 8, 0);
        due("no such bird", x.fits(0, 1), BEYOND);
        due("status(0)", x.status(0), 3);
        due("an empty sheet", x.fits(0, 0), 100);
        row(x, 0, 8, 0, 10);
        long before = all(x);
        due("it draws once: 0 to 54", x.fits(0, 0), 55);
        row(x, 0, 8, 0, 10, 20);
        due("it draws twice: 0 to 48", x.fits(0, 0), 49);
        row(x, 0, 16, 0, 10, 10);
        due("once alone: 49 to 54", x.fits(0, 0), 6);
        row(x, 0, 32, -1, -1, 10);
        due("any and any", x.fits(0, 0), 6);
        row(x, 0, 32, 1);
        due("not owed so now", x.fits(0, 0), 0);
        row(x, 0, 32, -1, -1, -1, -1, -1, -1, -1, -1, -1, 90, 77);
        due("the first ten alone", x.fits(0, 0), 7);
        due("nothing changed", all(x), before);
        x.go(3);
        row(x, 0, 8, 0, 10);
        due("six days on from the middle of a quarter", x.fits(0, 0), 58);
    }

    private static void kinds() {
        PigeonRolls x = told("bird carried");
        due("no such sheet, no such bird", x.kinds(4, 9), BEYOND);
        due("missing, no such bird", x.kinds(3, 9), MISSING);
        x.sheet(0, 8, 0);
        due("no such bird", x.kinds(0, 1), BEYOND);
        due("an empty sheet", x.kinds(0, 0), 127);
        row(x, 0, 8, 0, 8);
        due("hen or widow", x.kinds(0, 0), 2 + 64);
        row(x, 0, 8, -1, 22);
        due("duke or eagle", x.kinds(0, 0), 8 + 16);
        row(x, 0, 8, -1, 3, 6);
        due("jackdaw", x.kinds(0, 0), 32);
        row(x, 0, 8, 0, 10, 20);
        due("bird", x.kinds(0, 0), 1);
        x.change(0, 3, 74);
        row(x, 0, 8, 0, 8, 8);
        due("a hen of 74 draws once, a widow twice", x.kinds(0, 0), 2);
        row(x, 0, 8, 0, 0);
        due("bird and cock would be dead", x.kinds(0, 0), 1 + 4);
        due("nothing changed", x.of(0, 0), 0);
    }

    private static void hatchings() {
        PigeonRolls x = new PigeonRolls();
        due("hatchings(0)", x.hatchings(0), BEYOND);
        due("hatchings(21)", x.hatchings(21), BEYOND);
        due("z is as it was", x.count(6), 1);
        x.go(1);
        due("hatchings(2)", x.hatchings(2), 110);
        x = new PigeonRolls();
        x.go(2);
        for (int i = 0; i < 8; i++) {
            x.bird(0, 0);
        }
        x.seed(777);
        int z = 777 * 1103515245 + 12345;
        int corn = (z >>> 8) % 100;
        z = z * 1103515245 + 12345;
        int bird = (z >>> 8) % 8;
        due("hatchings(1)", x.hatchings(1), corn);
        due("listed(2)", x.listed(2), corn);
        due("z", x.count(6), z);
        due("who has a boy", x.now(2), 1 << bird);
        due("day", x.now(0), 3);
        x.change(bird, 5, 1);
        x.seed(777);
        x.hatchings(1);
        due("nobody has a boy", x.now(2), 0);
        due("nor that one", x.of(bird, 5), 0);
        due("day", x.now(0), 4);
        x.image();
        due("hatchings(20)", x.hatchings(20) >= 0 ? 1 : 0, 1);
        due("day", x.now(0), 24);
        x = atDay99960();
        x.go(20);
        due("hatchings(20)", x.hatchings(20), STATE);
        due("hatchings(21)", x.hatchings(21), BEYOND);
        due("z is as it was", x.count(6), 1);
        x.hatchings(19);
        due("day", x.now(0), 99999);
        due("hatchings(1)", x.hatchings(1), STATE);
    }

    private static void odds() {
        PigeonRolls x = told("bird carried;jackdaw");
        due("odds(0, 1, 0): 90 of 100", x.odds(0, 1, 0), 9);
        due("odds(0, 1, 1)", x.odds(0, 1, 1), 10);
        due("odds(0, 2, 0)", x.odds(0, 2, 0), 81);
        due("odds(0, 2, 1)", x.odds(0, 2, 1), 100);
        due("odds(0, 0, 0)", x.odds(0, 0, 0), 1);
        due("odds(0, 0, 1)", x.odds(0, 0, 1), 1);
        due("odds(1, 9, 0)", x.odds(1, 9, 0), 760231058654565217L);
        due("odds(1, 9, 1)", x.odds(1, 9, 1), 1000000000000000000L);
        x.change(0, 7, 40);
        due("owed counts, too: 1 of 2", x.odds(0, 3, 0), 1);
        due("owed counts, too", x.odds(0, 3, 1), 8);
        x.change(0, 7, 89);
        due("99 alone", x.odds(0, 1, 1), 100);
        x.change(0, 7, 90);
        due("never", x.odds(0, 4, 0), 0);
        due("never", x.odds(0, 4, 1), 1);
        due("never, of none", x.odds(0, 0, 0), 1);
        x.change(0, 7, 9999);
        due("never", x.odds(0, 9, 0), 0);
        due("odds(0, 10, 0)", x.odds(0, 10, 0), BEYOND);
        due("odds(0, -1, 0)", x.odds(0, -1, 0), BEYOND);
        due("odds(0, 1, 2)", x.odds(0, 1, 2), BEYOND);
        due("odds(0, 1, -1)", x.odds(0, 1, -1), BEYOND);
        due("odds(2, 1, 0)", x.odds(2, 1, 0), BEYOND);
        due("status(0)", x.status(0), 5);
        due("z is as it was", x.count(6), 1);
    }

    private static void seed() {
        PigeonRolls x = new PigeonRolls();
        due("seed(-1000001)", x.seed(-1000001), 1);
        due("seed(5)", x.seed(5), -1000001);
        due("that is no finding", x.status(-1), 0);
        due("seed(max)", x.seed(Integer.MAX_VALUE), 5);
        due("count(6)", x.count(6), Integer.MAX_VALUE);
    }

    private static void feeding() {
        PigeonRolls x = new PigeonRolls();
        due("feed(0, 0)", x.feed(0, 0), BEYOND);
        due("feed(0, 5)", x.feed(0, 5), BEYOND);
        due("feed corn", x.feed(1668248174, 4), 4);
        due("feed ' 7', the highest first", x.feed(0x7a7a2037, 2), 6);
        due("text()", x.text(), 1);
        due("now(1)", x.now(1), 7);
        due("a byte above 127 begins no token", x.feed(-1, 3), 3);
        due("text()", x.text(), -1);
        for (int i = 1; i <= 59; i++) {
            due("feed", x.feed(0x20202020, 2), 2 * i);
        }
        due("one too many", x.feed(0, 3), FULL);
        due("count(5)", x.count(5), 118);
        due("just as many", x.feed(0, 2), 120);
        due("feed(0, 1)", x.feed(0, 1), FULL);
        due("n is asked first", x.feed(0, 5), BEYOND);
    }

    private static void wipe() {
        PigeonRolls x = new PigeonRolls();
        feed(x, "corn 5");
        due("wipe()", x.wipe(), 6);
        due("wipe()", x.wipe(), 0);
        due("text()", x.text(), -1);
    }

    private static void texts() {
        PigeonRolls x = new PigeonRolls();
        due("text", text(x, "widow loft 5 aged 9999 carried boy ; duke from 0;harvest 5 99;corn 9999;strike 0;strike 1"), 6);
        due("kind", x.of(0, 0), 6);
        due("loft", x.of(0, 1), 5);
        due("from", x.of(0, 2), -1);
        due("age", x.of(0, 3), 9999);
        due("carried", x.of(0, 4), 1);
        due("boy", x.of(0, 5), 1);
        due("off", x.of(0, 6), 1);
        due("loft without", x.of(1, 1), 0);
        due("from", x.of(1, 2), 0);
        due("listed(5)", x.listed(5), 99);
        due("now(1)", x.now(1), 9999);
        due("the tape is empty", x.count(5), 0);
        due("words of kinds", text(x, "bird;hen;cock;duke;eagle;jackdaw"), 6);
        for (int i = 0; i < 6; i++) {
            due("kind", x.of(i + 2, 0), i);
        }
        due("full", text(x, "corn 1;hen"), -8);
        due("nothing changed", x.now(1), 9999);
        due("no finding", x.status(-1), 0);
        due("without blanks", text(x, "corn00007;harvest 2  3"), 2);
        due("now(1)", x.now(1), 7);
        due("listed(2)", x.listed(2), 3);
        due("blanks about it", text(x, "  corn 8  "), 1);
        feed(x, "corn 12345");
        x.wipe();
        due("bytes that were wiped are gone", text(x, "corn 1"), 1);
        due("now(1)", x.now(1), 1);
        due("item by item", text(x, "corn 9;corn 10"), 2);
        due("now(1)", x.now(1), 10);
        faults();
    }

    private static void faults() {
        fault("", 0);
        fault("   ", 3);
        fault("cat", 0);
        fault("hens", 0);
        fault("Hen", 0);
        fault("xen", 0);
        fault("henz", 0);
        fault("hen aged 9z", 10);
        fault(";", 0);
        fault("7", 0);
        fault("#", 0);
        fault("\then", 0);
        fault("hen;", 4);
        fault("hen; ", 5);
        fault("hen;;hen", 4);
        fault("hen hen", 4);
        fault("hen 5", 4);
        fault("hen?", 3);
        fault("hen loft", 8);
        fault("hen loft 6", 9);
        fault("hen loft x", 9);
        fault("hen loft ;", 9);
        fault("hen loft 5 loft 5", 11);
        fault("hen from 0", 9);
        fault("hen;hen from 1", 13);
        fault("hen;hen from 0 loft 1", 15);
        fault("hen aged 10000", 9);
        fault("hen aged 99999999999999999999", 9);
        fault("hen aged 4294967296", 9);
        fault("hen aged 1 loft 1", 11);
        fault("hen aged 1 from 0", 11);
        fault("hen boy carried", 8);
        fault("hen carriedboy", 4);
        fault("hen carried aged 1", 12);
        fault("hen boy boy", 8);
        fault("harvest", 7);
        fault("harvest 6 0", 8);
        fault("harvest 0", 9);
        fault("harvest 0 100", 10);
        fault("harvest 0;1", 9);
        fault("corn", 4);
        fault("corn 10000", 5);
        fault("corn 3 3", 7);
        fault("corn hen", 5);
        fault("strike 0", 7);
        fault("hen;strike 1", 11);
        fault("strike 0;hen", 7);
        fault("hen;hen;hen;hen;hen;hen;hen;hen;corn 5;hen from 77", 39);
    }

    private static void fault(String text, int place) {
        PigeonRolls x = told("corn 44");
        due("text '" + text + "'", text(x, text), -1 - place);
        due("nothing changed", x.now(1) * 10 + x.count(1), 440);
        due("the tape is empty", x.count(5), 0);
        due("no finding", x.status(-1), 0);
    }

    private static void hold() {
        PigeonRolls x = told("hen;cock");
        due("hold(0, 1)", x.hold(0, 1), 1);
        due("hold(9, 0)", x.hold(9, 0), 1);
        due("count(7)", x.count(7), 2);
        due("hold(9, -1)", x.hold(9, -1), 1);
        due("count(7)", x.count(7), 1);
        due("hold(10, 0)", x.hold(10, 0), BEYOND);
        due("hold(-1, 0)", x.hold(-1, 0), BEYOND);
        due("hold(0, 2)", x.hold(0, 2), BEYOND);
        due("hold(0, -2)", x.hold(0, -2), BEYOND);
        due("as(0, 2)", x.as(0, 2), 1);
        due("as(9, 0)", x.as(9, 0), MISSING);
    }

    private static void as() {
        PigeonRolls x = told("bird;hen;cock;duke;eagle;jackdaw;widow");
        int[] under = {1, 1 + 2, 1 + 4, 1 + 4 + 8, 1 + 4 + 8 + 16, 1 + 32, 1 + 2 + 64};
        for (int b = 0; b < 7; b++) {
            x.hold(b, b);
            for (int kind = 0; kind < 7; kind++) {
                due("as(" + b + ", " + kind + ")", x.as(b, kind), (under[b] >> kind & 1) == 1 ? b : KIND);
            }
        }
        due("as(10, 0)", x.as(10, 0), BEYOND);
        due("as(-1, 0)", x.as(-1, 0), BEYOND);
        due("as(7, 7)", x.as(7, 7), BEYOND);
        due("as(7, -1)", x.as(7, -1), BEYOND);
        due("as(7, 3)", x.as(7, 3), MISSING);
    }

    private static void sheet() {
        PigeonRolls x = new PigeonRolls();
        due("sheet(0, 8, 40)", x.sheet(0, 8, 40), 40);
        due("sheet(3, 16, 0)", x.sheet(3, 16, 0), 0);
        due("it isn't missing", x.load(3), 0);
        due("sheet(4, 8, 1)", x.sheet(4, 8, 1), BEYOND);
        due("sheet(-1, 8, 1)", x.sheet(-1, 8, 1), BEYOND);
        due("sheet(0, 7, -1)", x.sheet(0, 7, -1), BEYOND);
        due("sheet(0, 64, 1)", x.sheet(0, 64, 1), BEYOND);
        due("sheet(0, -8, 1)", x.sheet(0, -8, 1), BEYOND);
        due("sheet(0, 8, -1)", x.sheet(0, 8, -1), SIZE);
        due("sheet(0, 0, -1)", x.sheet(0, 0, -1), SIZE);
        due("sheet(0, 8, 41)", x.sheet(0, 8, 41), BEYOND);
        due("sheet(0, 0, 41)", x.sheet(0, 0, 41), BEYOND);
        due("it isn't missing", x.write(0, 39, 5), 1);
        due("sheet(0, 0, 7)", x.sheet(0, 0, 7), 0);
        due("it is missing", x.write(0, 0, 5), MISSING);
        row(x, 1, 32, 7, 8);
        x.sheet(1, 32, 2);
        due("all are 0 anew", x.load(1), 2);
        due("listed(0)", x.listed(0), 0);
    }

    private static void write() {
        PigeonRolls x = told("bird;bird;bird");
        x.change(0, 7, 9);
        x.sheet(0, 8, 3);
        x.sheet(1, 16, 3);
        x.sheet(2, 32, 3);
        int[] same = {9 + 256, 9 + 65536, 9};
        for (int s = 0; s < 3; s++) {
            due("write", x.write(s, 0, same[s]), 1);
            due("its lowest bits", x.judge(s), 0);
        }
        x.change(0, 7, 200);
        x.write(0, 0, 200);
        due("8 bits with a sign", x.judge(0), 1);
        x.write(1, 0, 200);
        due("16 bits", x.judge(1), 0);
        for (int i = 0; i < 3; i++) {
            x.write(0, i, 255);
            x.write(1, i, 65535);
        }
        due("-1 of 8 bits: any", x.kinds(0, 0), 127);
        due("-1 of 16 bits: any", x.kinds(1, 0), 127);
        x.write(2, 0, 65535);
        due("no -1 of 32 bits", x.kinds(2, 0), 0);
        due("write(4, 0, 0)", x.write(4, 0, 0), BEYOND);
        due("write(3, 99, 0)", x.write(3, 99, 0), MISSING);
        due("write(2, 3, 0)", x.write(2, 3, 0), BEYOND);
        due("write(2, -1, 0)", x.write(2, -1, 0), BEYOND);
    }

    private static void copy() {
        PigeonRolls x = new PigeonRolls();
        row(x, 0, 8, 1, 2, 3, 4, 5, 6);
        row(x, 1, 8, 10, 20);
        row(x, 2, 16, 7);
        due("copy(4, ..)", x.copy(4, 0, 0, 0, 1), BEYOND);
        due("copy(.., -1, ..)", x.copy(3, 0, -1, 0, 1), BEYOND);
        due("missing", x.copy(3, 0, 0, 0, 1), MISSING);
        due("missing", x.copy(2, 0, 3, 0, -1), MISSING);
        due("other bits", x.copy(0, 0, 2, 0, -1), KIND);
        due("from below 0", x.copy(0, -1, 1, 0, 1), BEYOND);
        due("to below 0", x.copy(0, 0, 1, -1, 1), BEYOND);
        due("n below 0", x.copy(0, 0, 1, 0, -1), BEYOND);
        due("too few there", x.copy(0, 0, 1, 1, 2), BEYOND);
        due("too few here", x.copy(1, 1, 0, 0, 2), BEYOND);
        due("no wrap-around", x.copy(0, Integer.MAX_VALUE, 1, 0, 2), BEYOND);
        due("no wrap-around", x.copy(0, 2, 1, 0, Integer.MAX_VALUE), BEYOND);
        due("none, at the end", x.copy(0, 6, 1, 2, 0), 0);
        due("none, behind the end", x.copy(0, 7, 1, 0, 0), BEYOND);
        due("copy", x.copy(0, 4, 1, 0, 2), 2);
        x.load(1);
        due("listed(0)", x.listed(0), 5);
        due("listed(1)", x.listed(1), 6);
        due("onto itself", x.copy(0, 0, 0, 1, 5), 5);
        x.load(0);
        int[] forth = {1, 1, 2, 3, 4, 5};
        for (int i = 0; i < 6; i++) {
            due("listed(" + i + ")", x.listed(i), forth[i]);
        }
        due("back onto itself", x.copy(0, 2, 0, 0, 4), 4);
        x.load(0);
        int[] back = {2, 3, 4, 5, 4, 5};
        for (int i = 0; i < 6; i++) {
            due("listed(" + i + ")", x.listed(i), back[i]);
        }
    }

    private static void load() {
        PigeonRolls x = new PigeonRolls();
        list(x, 9, 9, 9, 9, 9, 9);
        row(x, 0, 8, 0, 99, 100, 5);
        due("load(0)", x.load(0), 2);
        due("listed(0)", x.listed(0), 0);
        due("listed(1)", x.listed(1), 99);
        due("listed(2)", x.listed(2), 9);
        due("listed(3)", x.listed(3), 9);
        row(x, 0, 8, -1);
        due("load(0)", x.load(0), 0);
        row(x, 0, 8, 1, 2, 3, 4, 5, 6, 7, 8);
        due("no more places", x.load(0), 6);
        due("listed(5)", x.listed(5), 6);
        due("load(4)", x.load(4), BEYOND);
        due("load(-1)", x.load(-1), BEYOND);
        due("load(1)", x.load(1), MISSING);
    }

    private static void judge() {
        PigeonRolls x = told("hen;hen;hen");
        x.change(1, 7, 500);
        row(x, 0, 32, 0, 500, 0);
        due("so", x.judge(0), 0);
        row(x, 0, 32, 0, 500);
        due("so far", x.judge(0), 0);
        row(x, 0, 32, 0, 501, 1);
        due("the first that isn't so", x.judge(0), 2);
        row(x, 0, 32, -1);
        due("none is any here", x.judge(0), 1);
        row(x, 0, 32, 0, 500, 0, 0);
        due("a number of nobody", x.judge(0), 4);
        x.sheet(0, 8, 0);
        due("no numbers", x.judge(0), 0);
        due("judge(4)", x.judge(4), BEYOND);
        due("judge(1)", x.judge(1), MISSING);
    }

    private static void image() {
        PigeonRolls x = told("hen carried;corn 40;harvest 1 2");
        x.hold(3, 0);
        x.seed(99);
        x.go(3);
        long before = all(x);
        due("image()", x.image(), 1);
        due("nothing changed", all(x), before);
        x.go(30);
        x.bird(2, 2);
        x.change(0, 5, 1);
        x.harvest(1, 50);
        x.hold(3, -1);
        x.hold(4, 1);
        x.hatchings(4);
        due("undo()", x.undo(), 3);
        due("all is as it was", all(x), before);
        due("the spot, too", x.as(3, 1), 0);
    }

    private static void undo() {
        PigeonRolls x = new PigeonRolls();
        due("undo()", x.undo(), NONE);
        x.image();
        x.go(7);
        x.image();
        x.go(5);
        feed(x, "corn 3");
        row(x, 0, 8, 4);
        x.listed(99);
        due("undo(), the latest", x.undo(), 7);
        due("the tape stays", x.count(5), 6);
        due("sheets stay", x.load(0), 1);
        due("status stays", x.status(-1), 2);
        x.go(9);
        due("undo(), which stays", x.undo(), 7);
        x.bird(3, 3);
        x.change(0, 7, 70);
        x.undo();
        due("no bird", x.count(1), 0);
        x.bird(0, 0);
        due("a new bird is as at first", x.of(0, 7), 0);
    }

    private static void tear() {
        PigeonRolls x = new PigeonRolls();
        due("tear()", x.tear(), 0);
        x.image();
        x.image();
        due("tear()", x.tear(), 1);
        due("tear()", x.tear(), 0);
        due("undo()", x.undo(), NONE);
        x.image();
        due("undo()", x.undo(), 0);
    }

    private static void counts() {
        PigeonRolls x = told("hen;cock;corn 8");
        x.change(0, 7, 3);
        x.change(1, 7, 4);
        x.change(1, 8, 6);
        x.go(2);
        x.seed(-5);
        x.hold(1, 1);
        x.hold(2, 1);
        feed(x, "abc");
        int[] want = {2, 2, 8, 7, 6, 3, -5, 2};
        for (int what = 0; what < 8; what++) {
            due("count(" + what + ")", x.count(what), want[what]);
        }
        due("count(8)", x.count(8), BEYOND);
        due("count(-1)", x.count(-1), BEYOND);
    }

    private static void status() {
        PigeonRolls x = told("hen aged 81");
        due("status(7)", x.status(7), BEYOND);
        due("counted from then on", x.status(0), 1);
        due("status(-2)", x.status(-2), BEYOND);
        due("counted from then on", x.status(-1), 2);
        x.feed(0, 1);
        for (int i = 0; i < 30; i++) {
            x.feed(0, 4);
        }
        x.hold(0, 0);
        x.as(0, 5);
        x.undo();
        x.dies(9);
        x.ends();
        x.hatch(0, 0);
        x.load(2);
        x.load(2);
        x.sheet(0, 8, -1);
        x.odds(5, 5, 5);
        int[] want = {4, 1, 1, 1, 1, 2, 1};
        for (int which = 0; which < 7; which++) {
            due("status(" + which + ")", x.status(which), want[which]);
        }
        due("status(-1)", x.status(-1), 11);
        x.image();
        x.listed(6);
        x.undo();
        due("undo() takes none back", x.status(0), 5);
    }

    public static void main(String[] args) {
        Runnable[] promises = {
            PromiseTests::newObject, PromiseTests::harvest, PromiseTests::listed, PromiseTests::corn,
            PromiseTests::bird, PromiseTests::hatch, PromiseTests::of, PromiseTests::change,
            PromiseTests::loft, PromiseTests::issue, PromiseTests::go, PromiseTests::now,
            PromiseTests::ahead, PromiseTests::budget, PromiseTests::dies, PromiseTests::fails,
            PromiseTests::when, PromiseTests::ends, PromiseTests::harvestFor, PromiseTests::kindFor,
            PromiseTests::parentFor, PromiseTests::strike, PromiseTests::deny, PromiseTests::fits,
            PromiseTests::kinds, PromiseTests::hatchings, PromiseTests::odds, PromiseTests::seed,
            PromiseTests::feeding, PromiseTests::wipe, PromiseTests::texts, PromiseTests::hold,
            PromiseTests::as, PromiseTests::sheet, PromiseTests::write, PromiseTests::copy,
            PromiseTests::load, PromiseTests::judge, PromiseTests::image, PromiseTests::undo,
            PromiseTests::tear, PromiseTests::counts, PromiseTests::status,
        };
        for (Runnable p : promises) {
            promise++;
            p.run();
        }
        System.out.println(promise + " promises, " + asked + " answers, " + wrong + " not as due");
        if (wrong != 0 || promise != 43) {
            System.exit(1);
        }
    }
}
