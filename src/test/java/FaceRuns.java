import java.io.IOException;
import java.lang.reflect.Constructor;
import java.lang.reflect.Field;
import java.lang.reflect.Method;
import java.lang.reflect.Modifier;
import java.nio.charset.StandardCharsets;
import java.nio.file.Files;
import java.nio.file.Path;
import java.util.Set;
import java.util.TreeSet;

/** The public face, as the document prints it, and what of LANGUAGE.md shows in the text of the class. */
public final class FaceRuns {
    private static final Due DUE = new Due();
    private static final String[] FACE = {
        "int order(int,int)", "int place(int,int)", "int fall(int)", "int fallen(int)", "int draw()",
        "int sale(int,int,int,int,int)", "int swap(int,int,int,int,int)", "int text()", "int of(int,int)",
        "int holds(int,int)", "int conveys(int,int,int)", "int drop()", "int prune()", "int clash(int)",
        "int owner(int,int)", "int chain(int,int,int)", "int hand(int,int)", "int owners(int)", "int sure(int)",
        "int chance(int,int)", "int least(int,int)", "int price(int,int)", "int worth(int,int)", "long value(int)",
        "int best(int,int)", "int hope(int)", "int rounds(int,int)", "int lays(int,int)", "int judge(int,int)",
        "int feed(int,int)", "int wipe()", "int sheet(int,int,int)", "int write(int,int,long)", "long item(int,int)",
        "int copy(int,int,int,int,int)", "int hold(int,int)", "int taken(int,int)", "int image()", "int back()",
        "int seed(int)", "int count(int)", "int status(int)",
    };

    public static void main(String[] args) throws IOException {
        face();
        classesInside();
        words(Files.readString(Path.of("src/main/java/RolledPicks.java"), StandardCharsets.UTF_8));
        DUE.end();
    }

    private static String told(Method m) {
        StringBuilder b = new StringBuilder(m.getReturnType().getName()).append(' ').append(m.getName()).append('(');
        for (Class<?> p : m.getParameterTypes()) {
            b.append(b.charAt(b.length() - 1) == '(' ? "" : ",").append(p.getName());
        }
        return b.append(')').toString();
    }

    private static void face() {
        Class<?> c = RolledPicks.class;
        DUE.holds("public and final", Modifier.isPublic(c.getModifiers()) && Modifier.isFinal(c.getModifiers()));
        DUE.holds("without a package", c.getPackageName().isEmpty());
        Set<String> seen = new TreeSet<>();
        for (Method m : c.getDeclaredMethods()) {
            if (!Modifier.isPrivate(m.getModifiers())) {
                DUE.holds(m + " is public, no more", m.getModifiers() == Modifier.PUBLIC);
                DUE.is(m + " throws", m.getExceptionTypes().length, 0);
                seen.add(told(m));
            }
        }
        DUE.holds("the methods are those of the document: " + seen, seen.equals(new TreeSet<>(Set.of(FACE))));
        Constructor<?>[] made = c.getDeclaredConstructors();
        DUE.is("constructors", made.length, 1);
        DUE.holds("the constructor is public", Modifier.isPublic(made[0].getModifiers()) && made[0].getParameterCount() == 0);
        int ofObjects = 0;
        for (Field f : c.getDeclaredFields()) {
            DUE.holds(f + " is private", Modifier.isPrivate(f.getModifiers()));
            DUE.holds(f + " is final where static", !Modifier.isStatic(f.getModifiers()) || Modifier.isFinal(f.getModifiers()));
            ofObjects += Modifier.isStatic(f.getModifiers()) ? 0 : 1;
        }
        DUE.holds("some twenty fields", ofObjects <= 20);
    }

    private static void classesInside() {
        Class<?>[] inside = RolledPicks.class.getDeclaredClasses();
        DUE.holds("some twelve classes", inside.length <= 11);
        Set<String> names = new TreeSet<>();
        for (String f : FACE) {
            names.add(f.substring(f.indexOf(' ') + 1, f.indexOf('(')));
        }
        for (Class<?> c : inside) {
            int m = c.getModifiers();
            DUE.holds(c + " is private or package-visible, static", Modifier.isStatic(m) && !Modifier.isPublic(m)
                && !Modifier.isProtected(m));
            privateNames(c, names);
        }
        privateNames(RolledPicks.class, names);
    }

    private static void privateNames(Class<?> c, Set<String> names) {
        for (Method m : c.getDeclaredMethods()) {
            DUE.holds(m + " bears the name of a public one", !Modifier.isPrivate(m.getModifiers()) || !names.contains(m.getName()));
            DUE.holds(m + " takes at most seven", m.getParameterCount() <= 7);
        }
    }

    private static void words(String text) {
        String[] barred = {"->", "::", "catch", "finally", "synchronized", "assert", "throw", "import", "package ",
            "System.currentTimeMillis", "System.nanoTime", "Random", "Thread", "hashCode", "getClass", "Exact", "double", "float"};
        for (String word : barred) {
            DUE.holds("no " + word.trim() + " in the class", !text.contains(word));
        }
        for (int i = 0; i < text.length(); i++) {
            DUE.holds("sign " + (int) text.charAt(i) + " at " + i, text.charAt(i) < 128);
        }
        String[] lines = text.split("\n", -1);
        int start = -1;
        for (int i = 0; i < lines.length; i++) {
            if (lines[i].matches(" {4}(    )?[a-z].*\\(.*\\) \\{")) {
                start = i;
            } else if (start >= 0 && lines[i].matches(" {4}(    )?\\}")) {
                DUE.holds("the method at line " + (start + 1) + " is short", i - start <= 60);
                start = -1;
            }
        }
    }
}
