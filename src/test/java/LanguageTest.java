import java.lang.management.ManagementFactory;
import java.lang.reflect.Constructor;
import java.lang.reflect.Field;
import java.lang.reflect.Method;
import java.lang.reflect.Modifier;
import java.nio.file.Files;
import java.nio.file.Path;
import java.util.Arrays;
import java.util.TreeSet;

/** The face of the document, the rules of LANGUAGE.md that a machine can see, and the room that calls take. */
public final class LanguageTest {
    private static final String[] FACE = {
        "int harvest(int,int)", "int listed(int)", "int corn(int)", "int bird(int,int)", "int hatch(int,int)",
        "int of(int,int)", "int change(int,int,int)", "int loft(int)", "int issue(int)", "int go(int)",
        "int now(int)", "int ahead(int,int,int)", "int budget(int)", "int dies(int)", "int fails()",
        "int when(int,int)", "int ends()", "int harvestFor(int,int)", "int kindFor(int,int)",
        "int parentFor(int,int)", "int strike(int)", "int deny(int)", "int fits(int,int)", "int kinds(int,int)",
        "int hatchings(int)", "long odds(int,int,int)", "int seed(int)", "int feed(int,int)", "int wipe()",
        "int text()", "int hold(int,int)", "int as(int,int)", "int sheet(int,int,int)", "int write(int,int,int)",
        "int copy(int,int,int,int,int)", "int load(int)", "int judge(int)", "int image()", "int undo()",
        "int tear()", "int count(int)", "int status(int)",
    };
    private static final String[] RULED_OUT = {
        "\\bthrow\\b", "\\btry\\b", "\\bcatch\\b", "\\bsynchronized\\b", "\\bassert\\b", "->", "::", "\\bimport\\b",
        "\\bpackage\\b", "Exact\\s*\\(", "static\\s*\\{", "\\bdouble\\b", "\\bfloat\\b", "\\bprotected\\b",
        "\\bSystem\\.(?!arraycopy)", "\\b(hashCode|toString)\\b",
    };

    private static int wrong = 0;

    private static void due(String what, boolean holds) {
        if (!holds) {
            wrong++;
            System.out.println("not so: " + what);
        }
    }

    private static String signature(Method m) {
        StringBuilder s = new StringBuilder(m.getReturnType().getName()).append(' ').append(m.getName()).append('(');
        for (Class<?> p : m.getParameterTypes()) {
            s.append(s.charAt(s.length() - 1) == '(' ? "" : ",").append(p.getName());
        }
        return s.append(')').toString();
    }

    private static void face() {
        Class<?> c = PigeonRolls.class;
        due("public and final", Modifier.isPublic(c.getModifiers()) && Modifier.isFinal(c.getModifiers()));
        Constructor<?>[] made = c.getDeclaredConstructors();
        due("one public constructor without parameters",
            made.length == 1 && Modifier.isPublic(made[0].getModifiers()) && made[0].getParameterCount() == 0);
        TreeSet<String> names = new TreeSet<>();
        TreeSet<String> shown = new TreeSet<>();
        for (Method m : c.getDeclaredMethods()) {
            if (!Modifier.isPrivate(m.getModifiers())) {
                shown.add(signature(m));
                names.add(m.getName());
                due(m + " is public", Modifier.isPublic(m.getModifiers()));
            }
        }
        due("the face's methods and no others: " + shown, shown.equals(new TreeSet<>(Arrays.asList(FACE))));
        for (Method m : c.getDeclaredMethods()) {
            due(m + " has a name of its own", !Modifier.isPrivate(m.getModifiers()) || !names.contains(m.getName()));
            due(m + " has at most seven parameters", m.getParameterCount() <= 7);
        }
        for (Field f : c.getDeclaredFields()) {
            due(f + " is private", Modifier.isPrivate(f.getModifiers()));
            due(f + ": static fields are final", !Modifier.isStatic(f.getModifiers()) || Modifier.isFinal(f.getModifiers()));
        }
        for (Class<?> inside : c.getDeclaredClasses()) {
            due(inside + " is static", Modifier.isStatic(inside.getModifiers()));
            for (Method m : inside.getDeclaredMethods()) {
                due(m + " has a name of its own", !names.contains(m.getName()));
            }
            for (Field f : inside.getDeclaredFields()) {
                due(f + ": static fields are final", !Modifier.isStatic(f.getModifiers()) || Modifier.isFinal(f.getModifiers()));
            }
        }
    }

    private static void source() throws Exception {
        String s = Files.readString(Path.of("src/main/java/PigeonRolls.java"));
        due("signs 1 to 127 alone", s.chars().allMatch(c -> c >= 1 && c <= 127));
        String bare = s.replaceAll("(?s)/\\*.*?\\*/", "").replaceAll("//[^\n]*", "")
            .replaceAll("\"[^\"]*\"", "\"\"").replaceAll("'.'", "' '");
        for (String rule : RULED_OUT) {
            due("no " + rule, !java.util.regex.Pattern.compile(rule).matcher(bare).find());
        }
    }

    /** All calls of a run share one room, so a call makes no objects at all. */
    private static void room() {
        com.sun.management.ThreadMXBean threads = (com.sun.management.ThreadMXBean) ManagementFactory.getThreadMXBean();
        long id = Thread.currentThread().getId();
        dearCalls(new PigeonRolls());
        PigeonRolls x = new PigeonRolls();
        long before = threads.getThreadAllocatedBytes(id);
        dearCalls(x);
        long bytes = threads.getThreadAllocatedBytes(id) - before;
        due("no call makes objects: " + bytes + " bytes", bytes < 4096);
    }

    private static void dearCalls(PigeonRolls x) {
        for (int i = 0; i < 8; i++) {
            x.bird(i % 7, i % 3);
            x.change(i, 4, 1);
        }
        x.sheet(0, 8, 40);
        x.corn(300);
        for (int i = 0; i < 40; i++) {
            x.write(0, i, -1);
        }
        for (int i = 0; i < 20; i++) {
            x.strike(24);
            x.fits(0, i % 8);
            x.kinds(0, i % 8);
            x.harvestFor(i % 6, 60);
            x.kindFor(i % 8, 60);
            x.parentFor(i % 8, 60);
            x.fails();
            x.ends();
            x.image();
            x.feed(0x636f726e, 4);
            x.feed(0x20353030, 4);
            x.text();
            x.hatchings(20);
            x.odds(i % 8, 9, 0);
            x.undo();
        }
    }

    public static void main(String[] args) throws Exception {
        face();
        source();
        room();
        System.out.println(wrong == 0 ? "face, language and room are as told" : wrong + " rules broken");
        if (wrong != 0) {
            System.exit(1);
        }
    }
}
