import java.io.IOException;
import java.lang.reflect.Constructor;
import java.lang.reflect.Field;
import java.lang.reflect.Method;
import java.lang.reflect.Modifier;
import java.nio.file.Files;
import java.nio.file.Path;
import java.util.ArrayList;
import java.util.Arrays;
import java.util.List;
import java.util.Set;
import java.util.TreeSet;
import java.util.regex.Matcher;
import java.util.regex.Pattern;

/** The public face, and the rules of LANGUAGE.md that can be seen without running anything. */
public final class FaceTest {
    private static final Due due = new Due("FaceTest");
    private static final List<String> FACE = List.of(
            "int type(int)", "int wipe()", "int fault()", "int stone(int,int)", "int lasts(int)",
            "int event(int,int,int,int,int)", "int read(int)", "int undo()", "int judged()",
            "int at(int,int,int)", "int luck(int,int,int)", "int days(int,int,int)", "int led(int,int,int)",
            "int without(int,int)", "int book(int,int,int)", "int forget()", "int fitting(int)",
            "int lets(int,int,int)", "int robs(int,int,int)", "int guard(int,int)", "long chance(int,int,int)",
            "long waits(int,int)", "int careless(int,int)", "int thief(int,int,int)", "int sheet(int,int,int)",
            "int lose(int)", "int lay(int,int,int,int)", "int get(int,int,int)", "int copy(int,int,int,int,int)",
            "int write(int,int,int)", "int count(int)", "long digest()");

    public static void main(String[] args) throws IOException {
        methods();
        constants();
        classesInside();
        sizes();
        source();
        due.end();
    }

    private static String told(Method m) {
        List<String> types = Arrays.stream(m.getParameterTypes()).map(Class::getName).toList();
        return m.getReturnType().getName() + " " + m.getName() + "(" + String.join(",", types) + ")";
    }

    private static void methods() {
        Set<String> seen = new TreeSet<>();
        Set<String> names = new TreeSet<>();
        for (Method m : LuckyStolen.class.getDeclaredMethods()) {
            if (Modifier.isPublic(m.getModifiers())) {
                due.holds(told(m) + " is no static one", !Modifier.isStatic(m.getModifiers()));
                seen.add(told(m));
                names.add(m.getName());
            }
        }
        due.holds("the methods are " + seen, seen.equals(new TreeSet<>(FACE)));
        for (Method m : LuckyStolen.class.getDeclaredMethods()) {
            int how = m.getModifiers();
            due.holds(told(m) + " is public or private", Modifier.isPublic(how) || Modifier.isPrivate(how));
            due.holds(told(m) + " has a name of its own", Modifier.isPublic(how) || !names.contains(m.getName()));
        }
        for (Class<?> inside : LuckyStolen.class.getDeclaredClasses()) {
            for (Method m : inside.getDeclaredMethods()) {
                due.holds(inside.getName() + ": " + told(m) + " has a name of its own", !names.contains(m.getName()));
            }
        }
        Constructor<?>[] makers = LuckyStolen.class.getDeclaredConstructors();
        due.is("constructors", makers.length, 1);
        due.holds("the constructor is public", Modifier.isPublic(makers[0].getModifiers()));
        due.is("its parameters", makers[0].getParameterCount(), 0);
        due.holds("the class is final", Modifier.isFinal(LuckyStolen.class.getModifiers()));
        due.holds("the class is public", Modifier.isPublic(LuckyStolen.class.getModifiers()));
    }

    private static void constants() {
        due.is("NONE", LuckyStolen.NONE, -1);
        due.is("BAD", LuckyStolen.BAD, -2);
        due.is("NOT", LuckyStolen.NOT, -3);
        due.is("FULL", LuckyStolen.FULL, -4);
        Set<String> open = new TreeSet<>();
        for (Field f : LuckyStolen.class.getDeclaredFields()) {
            if (!Modifier.isPrivate(f.getModifiers())) {
                open.add(f.getName());
            }
        }
        due.holds("the open fields are " + open, open.equals(Set.of("NONE", "BAD", "NOT", "FULL")));
    }

    private static void classesInside() {
        int fields = 0;
        for (Class<?> inside : LuckyStolen.class.getDeclaredClasses()) {
            int how = inside.getModifiers();
            due.holds(inside.getName() + " is static", Modifier.isStatic(how));
            due.holds(inside.getName() + " is not open", !Modifier.isPublic(how) && !Modifier.isProtected(how));
            for (Field f : inside.getDeclaredFields()) {
                boolean fine = !Modifier.isStatic(f.getModifiers()) || Modifier.isFinal(f.getModifiers());
                due.holds(inside.getName() + "." + f.getName() + " is no static state", fine);
                fields++;
            }
        }
        due.holds("there are fields", fields > 0);
        due.holds("at most twelve classes", LuckyStolen.class.getDeclaredClasses().length < 12);
    }

    /** Rule 11: at most seven parameters, some twenty fields beside the constants. */
    private static void sizes() {
        List<Class<?>> all = new ArrayList<>(List.of(LuckyStolen.class.getDeclaredClasses()));
        all.add(LuckyStolen.class);
        for (Class<?> c : all) {
            for (Method m : c.getDeclaredMethods()) {
                due.holds(c.getName() + ": " + told(m) + " takes at most seven", m.getParameterCount() <= 7);
            }
            long fields = Arrays.stream(c.getDeclaredFields())
                    .filter(f -> !Modifier.isStatic(f.getModifiers())).count();
            due.holds(c.getName() + " has " + fields + " fields", fields <= 20);
        }
    }

    private static String withoutComments(String source) {
        return source.replaceAll("(?s)/\\*.*?\\*/", " ").replaceAll("//[^\n]*", " ");
    }

    private static void source() throws IOException {
        String code = withoutComments(Files.readString(Path.of("src/main/java/LuckyStolen.java")));
        String[] never = {"\\bthrows?\\b", "\\btry\\b", "\\bcatch\\b", "\\bsynchronized\\b", "\\bassert\\b",
            "\\bimport\\b", "\\bpackage\\b", "->", "::", "Exact\\b", "\\bstatic\\s*\\{", "\\bobject\\b",
            "\\bdouble\\b", "\\bfloat\\b"};
        for (String word : never) {
            due.holds("no " + word, !Pattern.compile(word).matcher(code).find());
        }
        Matcher library = Pattern.compile("\\b(System|Math|Integer|Long|Arrays|String)\\.(\\w+)").matcher(code);
        Set<String> allowed = Set.of("System.arraycopy", "Math.min", "Math.max", "Integer.bitCount");
        while (library.find()) {
            due.holds(library.group() + " is of the library", allowed.contains(library.group()));
        }
        due.holds("nothing is made but in constructors and fields",
                !Pattern.compile("\n {8,}(?!final )(?!.*sheets\\[s\\] = )[^\n]*\\bnew ").matcher(code).find());
    }
}
