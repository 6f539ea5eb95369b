import java.lang.reflect.Constructor;
import java.lang.reflect.Field;
import java.lang.reflect.Method;
import java.lang.reflect.Modifier;
import java.nio.file.Files;
import java.nio.file.Path;
import java.util.Arrays;
import java.util.Set;
import java.util.TreeSet;
import java.util.regex.Matcher;
import java.util.regex.Pattern;

/** The public face, and what LANGUAGE.md forbids as far as it can be seen in the source's words. */
final class FaceTests {
    private static final String[] FACE = {"row int,int,int int", "set int,int,long int", "copy int,int,int,int,int int",
        "element int,int long", "show int,int int", "holds int int", "says int,int int", "rider int,int int",
        "riderOf int,int int", "tell int,int,int int", "sledges int,int int", "ask int,int int", "hill int int",
        "fault  int", "takes int int", "may int int", "next int int", "ahead int,int int", "by int,int int",
        "fair int int", "best int int", "judge int,int int", "behind int,int,int int", "done int,int int",
        "fits int int", "road int,int,int,int,int int", "pennies int int", "who int int", "move int int",
        "goes int,int int", "winter int int", "day int int", "seed int int", "act int,int,int int", "trace int int",
        "image  int", "restore  int", "status int int"};
    private static final String[] FORBIDDEN = {"\\bthrow\\b", "\\bthrows\\b", "\\btry\\b", "\\bcatch\\b",
        "\\bsynchronized\\b", "\\bassert\\b", "->", "::", "\\bimport\\b", "\\bpackage\\b", "\\bSystem\\.(?!arraycopy)",
        "Exact\\(", "\\bvolatile\\b", "\\bnative\\b", "\\bStrictMath\\b", "\\bRandom\\b", "\\bThread\\b",
        "\\bprotected\\b", "[^\\x00-\\x7f]", "\" \\+", "\\+ \"", "\\bfloat\\b", "\\bdouble\\b", "\\bObject\\b"};
    /** What LANGUAGE.md lets the class take of the library, as far as it takes it by a class's name. */
    private static final Pattern LIBRARY = Pattern.compile("\\b(Math|Integer|Long|Arrays|String|List|System)\\.(\\w+)");
    private static final Set<String> ALLOWED = Set.of("compare", "max", "min", "abs", "bitCount", "floorDiv", "floorMod",
        "copyOf", "copyOfRange", "fill", "of", "arraycopy", "MAX_VALUE", "MIN_VALUE");
    private static final int LONGEST_METHOD = 60;

    private FaceTests() {
    }

    static void run(Tally t, Path source) throws Exception {
        face(t);
        constants(t);
        classesInside(t);
        sizes(t, OneSledgeForTwo.class);
        library(t, Files.readString(source));
        words(t, Files.readString(source));
        lengths(t, Files.readString(source));
    }

    private static void face(Tally t) {
        Class<?> c = OneSledgeForTwo.class;
        t.holds("face: public and final", Modifier.isPublic(c.getModifiers()) && Modifier.isFinal(c.getModifiers()));
        t.holds("face: no package", c.getPackageName().isEmpty());
        Set<String> due = new TreeSet<>(Arrays.asList(FACE));
        Set<String> is = new TreeSet<>();
        Set<String> hidden = new TreeSet<>();
        for (Method m : c.getDeclaredMethods()) {
            if (Modifier.isPrivate(m.getModifiers())) {
                hidden.add(m.getName());
                continue;
            }
            t.holds("face: public, of the object: " + m.getName(), m.getModifiers() == Modifier.PUBLIC);
            String parameters = Arrays.toString(m.getParameterTypes()).replaceAll("[\\[\\] ]", "");
            is.add(m.getName() + " " + parameters + " " + m.getReturnType());
        }
        t.holds("face: its methods " + is, is.equals(due));
        for (String method : due) {
            t.holds("face: no private " + method, !hidden.contains(method.substring(0, method.indexOf(' '))));
        }
        Constructor<?>[] made = c.getDeclaredConstructors();
        t.due("face: constructors", made.length, 1);
        t.holds("face: the constructor", made[0].getParameterCount() == 0 && Modifier.isPublic(made[0].getModifiers()));
    }

    private static void constants(Tally t) {
        for (Field f : OneSledgeForTwo.class.getDeclaredFields()) {
            if (!Modifier.isPrivate(f.getModifiers())) {
                t.holds("face: the constant " + f.getName(), f.getName().equals("NONE") && f.getType() == int.class);
                t.due("face: it is public static final", f.getModifiers(),
                    Modifier.PUBLIC | Modifier.STATIC | Modifier.FINAL);
            }
        }
        t.due("face: NONE", OneSledgeForTwo.NONE, -1);
    }

    private static void classesInside(Tally t) {
        Class<?>[] inside = OneSledgeForTwo.class.getDeclaredClasses();
        t.holds("rule 11: classes", inside.length < 12);
        for (Class<?> c : inside) {
            int modifiers = c.getModifiers();
            t.holds("rule 1: " + c.getName(), Modifier.isStatic(modifiers) && !Modifier.isPublic(modifiers));
            sizes(t, c);
            for (Method m : c.getDeclaredMethods()) {
                for (String method : FACE) {
                    t.holds("rule 1: not the name of a public one", !method.startsWith(m.getName() + " "));
                }
            }
        }
    }

    private static void sizes(Tally t, Class<?> c) {
        int fields = 0;
        for (Field f : c.getDeclaredFields()) {
            boolean fixed = Modifier.isStatic(f.getModifiers());
            fields += fixed ? 0 : 1;
            Class<?> of = f.getType().getComponentType();
            t.holds("rule 5: final, of what is allowed: " + f.getName(), !fixed || Modifier.isFinal(f.getModifiers())
                && (of == null || Set.of(int.class, long.class, char.class, byte.class).contains(of)));
        }
        t.holds("rule 11: fields of " + c.getName(), fields <= 20);
        for (Method m : c.getDeclaredMethods()) {
            t.holds("rule 11: parameters of " + m.getName(), m.getParameterCount() <= 7);
        }
    }

    private static void library(Tally t, String source) {
        Matcher m = LIBRARY.matcher(source);
        while (m.find()) {
            t.holds("rule 4: " + m.group(), ALLOWED.contains(m.group(2)));
        }
    }

    private static void words(Tally t, String source) {
        for (String word : FORBIDDEN) {
            Matcher m = Pattern.compile(word).matcher(source);
            t.holds("rule 6: no " + word, !m.find());
        }
    }

    private static void lengths(Tally t, String source) {
        String[] lines = source.split("\n");
        int begin = -1;
        String closing = "";
        for (int i = 0; i < lines.length; i++) {
            String line = lines[i];
            boolean opens = line.matches(" {4}( {4})?[\\w].*\\) \\{");
            if (begin < 0 && opens) {
                begin = i;
                closing = line.substring(0, line.length() - line.stripLeading().length()) + "}";
            } else if (begin >= 0 && line.equals(closing)) {
                t.holds("rule 11: a short method at line " + (begin + 1), i - begin < LONGEST_METHOD);
                begin = -1;
            }
        }
    }
}
