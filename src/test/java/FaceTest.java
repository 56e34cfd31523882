import java.io.IOException;
import java.lang.reflect.Constructor;
import java.lang.reflect.Field;
import java.lang.reflect.Method;
import java.lang.reflect.Modifier;
import java.nio.file.Files;
import java.nio.file.Path;
import java.util.Set;
import java.util.TreeSet;

/** The public face, and those rules of LANGUAGE.md that can be seen by words. */
public final class FaceTest {
    private static final String METHODS = "person3 told2 as2 turns2 set3 vow3 vowOf2 breaks1 eclipse0 deal1 seed1 hours1 land1"
        + " reaches2 behind2 free0 sworn2 trust2 debtor2 clock3 fee0 fine1 feed3 trim1 text0 textTold2 why1 sheet3 mark3 pour1"
        + " reads1 copy5 lay3 ask2 item2 rest2 tell1 check1 keep0 back0 count1";
    private static final String CONSTANTS = "BAD=-1000000001 NO=-1000000002 FULL=-1000000003 NONE=-1000000005"
        + " NOTHING=-1000000011 KIND=-1000000012 INDEX=-1000000013 SIZE=-1000000014";

    public static void main(String[] args) throws ReflectiveOperationException, IOException {
        methods();
        constants();
        constructor();
        classesInside();
        words();
        Due.end();
    }

    private static void alike(String what, Set<String> got, String want) {
        boolean alike = got.equals(new TreeSet<>(Set.of(want.split(" "))));
        if (!alike) {
            System.out.println(what + ": " + got);
        }
        Due.holds(what, alike);
    }

    private static void methods() {
        Set<String> faces = new TreeSet<>();
        Set<String> names = new TreeSet<>();
        for (Method m : NoonVows.class.getDeclaredMethods()) {
            if (Modifier.isPublic(m.getModifiers())) {
                boolean plain = m.getReturnType() == int.class && !Modifier.isStatic(m.getModifiers());
                for (Class<?> type : m.getParameterTypes()) {
                    plain &= type == int.class;
                }
                Due.holds("face: " + m, plain);
                faces.add(m.getName() + m.getParameterCount());
                names.add(m.getName());
            }
        }
        alike("face: methods", faces, METHODS);
        for (Class<?> c : NoonVows.class.getDeclaredClasses()) {
            for (Method m : c.getDeclaredMethods()) {
                Due.holds("rule 1: the name of " + m, !names.contains(m.getName()));
            }
        }
        for (Method m : NoonVows.class.getDeclaredMethods()) {
            boolean isPublic = Modifier.isPublic(m.getModifiers());
            Due.holds("rule 1: " + m, isPublic || Modifier.isPrivate(m.getModifiers()) && !names.contains(m.getName()));
            Due.holds("rule 11: " + m, m.getParameterCount() <= 7);
        }
    }

    private static void constants() throws ReflectiveOperationException {
        Set<String> faces = new TreeSet<>();
        for (Field f : NoonVows.class.getDeclaredFields()) {
            if (Modifier.isPrivate(f.getModifiers())) {
                continue;
            }
            Due.holds("face: " + f, f.toString().startsWith("public static final int "));
            faces.add(f.getName() + "=" + f.getInt(null));
        }
        alike("face: constants", faces, CONSTANTS);
    }

    private static void constructor() {
        Constructor<?>[] all = NoonVows.class.getDeclaredConstructors();
        Due.is("face: constructors", all.length, 1);
        Due.is("face: its parameters", all[0].getParameterCount(), 0);
        Due.holds("face: it is public", Modifier.isPublic(all[0].getModifiers()));
        Due.is("face: the class", NoonVows.class.getModifiers(), Modifier.PUBLIC | Modifier.FINAL);
        Due.holds("face: no package", NoonVows.class.getPackageName().isEmpty());
    }

    private static void classesInside() {
        Class<?>[] all = NoonVows.class.getDeclaredClasses();
        Due.holds("rule 11: classes", all.length + 1 <= 12);
        for (Class<?> c : all) {
            int m = c.getModifiers();
            Due.holds("rule 1: " + c, Modifier.isStatic(m) && !Modifier.isPublic(m) && !Modifier.isProtected(m));
        }
    }

    private static void words() throws IOException {
        String source = Files.readString(Path.of("src/main/java/NoonVows.java"));
        for (int k = 0; k < source.length(); k++) {
            if (source.charAt(k) > 126) {
                Due.is("source: a sign at " + k, source.charAt(k), ' ');
            }
        }
        String code = source.replaceAll("(?s)/\\*.*?\\*/", " ").replaceAll("//[^\n]*", " ").replaceAll("\"[^\"\n]*\"", "S");
        for (String word : "throw throws try catch synchronized assert import package protected lambda var goto Object".split(" ")) {
            Due.holds("rule 6: " + word, !code.matches("(?s).*\\b" + word + "\\b.*"));
        }
        Due.holds("rule 2: no lambda, no method reference", !code.contains("->") && !code.contains("::"));
        Due.holds("rule 4: no Exact", !code.contains("Exact"));
        // What a run makes is counted: rows are made where objects are, not by calls.
        int calls = code.indexOf("public int person");
        int inside = code.indexOf("private static final class Person");
        Due.holds("rule 12: no call makes an object", !code.substring(calls, inside).matches("(?s).*\\bnew\\b.*"));
    }
}
