import java.io.IOException;
import java.lang.reflect.Constructor;
import java.lang.reflect.Field;
import java.lang.reflect.Method;
import java.lang.reflect.Modifier;
import java.nio.file.Files;
import java.nio.file.Path;
import java.util.Random;
import java.util.Set;
import java.util.TreeSet;
import java.util.regex.Matcher;
import java.util.regex.Pattern;

/** The face of the document, the rules of LANGUAGE.md that can be seen from outside, and calls with any numbers. */
public final class FaceTest {
    private static final Checks C = new Checks();
    private static final String[] FACE = {
        "int council(int,int,int,int)", "int ofBill(int,int)", "int moon(int)", "int span(int)", "int move(int,int)",
        "int cloud(int,boolean)", "int struck(int)", "int passing()", "int force(int)", "int holds(int)",
        "int chronicle(int,int,int,int)", "int buy(int,int)", "int when(int,int)", "int longest(int,int)",
        "int worth(int)", "int reading(int,int,boolean)", "int back(int)", "int spans()", "int origins()",
        "int kinds(int)", "int moved(int,int)", "long odds(int,int,int)", "int sheet(int,int,int)", "int lose(int)",
        "int put(int,int,int)", "long cell(int,int,int)", "int copy(int,int,int,int,int)", "int tell(int)",
        "int seal(int)", "int as(int,int)", "int trace()", "int fault()", "int many(int)"};
    private static final String FORBIDDEN =
            "\\b(throw|throws|try|catch|synchronized|assert|import|package|protected|\\w+Exact|System\\.[b-z]\\w*)\\b|->|::";

    public static void main(String[] args) throws Exception {
        constants();
        methods();
        members();
        source();
        anyNumbers();
        C.end("FaceTest");
    }

    private static void yes(String what, boolean is) {
        C.due(what, is ? 1 : 0, 1);
    }

    private static void constants() {
        C.part("constants");
        C.due("UNKNOWN", MoonVeto.UNKNOWN, -1);
        C.due("OUTSIDE", MoonVeto.OUTSIDE, -2);
        C.due("STATE", MoonVeto.STATE, -3);
        C.due("FULL", MoonVeto.FULL, -4);
        C.due("NONE", MoonVeto.NONE, -9);
        C.due("LOST", MoonVeto.LOST, Long.MIN_VALUE);
    }

    private static String signature(Method m) {
        StringBuilder s = new StringBuilder(m.getReturnType() + " " + m.getName() + "(");
        for (Class<?> type : m.getParameterTypes()) {
            s.append(s.charAt(s.length() - 1) == '(' ? "" : ",").append(type);
        }
        return s.append(")").toString();
    }

    private static void methods() {
        C.part("methods");
        Set<String> want = new TreeSet<>(Set.of(FACE));
        Set<String> names = new TreeSet<>();
        Set<String> got = new TreeSet<>();
        for (Method m : MoonVeto.class.getDeclaredMethods()) {
            if (Modifier.isPublic(m.getModifiers())) {
                got.add(signature(m));
                names.add(m.getName());
                yes(m + " is no static one", !Modifier.isStatic(m.getModifiers()));
            }
        }
        yes("the face is " + got, got.equals(want));
        for (Class<?> c : classes()) {
            for (Method m : c.getDeclaredMethods()) {
                boolean isFace = c == MoonVeto.class && Modifier.isPublic(m.getModifiers());
                yes(c.getSimpleName() + "." + m.getName() + " has a name of its own", isFace || !names.contains(m.getName()));
                yes(m + " takes at most seven", m.getParameterCount() <= 7);
            }
        }
    }

    private static Class<?>[] classes() {
        Class<?>[] inside = MoonVeto.class.getDeclaredClasses();
        Class<?>[] all = java.util.Arrays.copyOf(inside, inside.length + 1);
        all[inside.length] = MoonVeto.class;
        return all;
    }

    private static void members() {
        C.part("members");
        yes("MoonVeto is public and final", MoonVeto.class.getModifiers() == (Modifier.PUBLIC | Modifier.FINAL));
        C.due("constructors", MoonVeto.class.getConstructors().length, 1);
        for (Constructor<?> c : MoonVeto.class.getDeclaredConstructors()) {
            yes(c + " is the public one", Modifier.isPublic(c.getModifiers()) && c.getParameterCount() == 0);
        }
        for (Method m : MoonVeto.class.getDeclaredMethods()) {
            yes(m + " is public or private", Modifier.isPublic(m.getModifiers()) || Modifier.isPrivate(m.getModifiers()));
        }
        C.due("public fields", MoonVeto.class.getFields().length, 6);
        for (Class<?> c : classes()) {
            yes(c + " is static inside", c == MoonVeto.class || Modifier.isStatic(c.getModifiers()));
            int fields = 0;
            for (Field f : c.getDeclaredFields()) {
                boolean isStatic = Modifier.isStatic(f.getModifiers());
                yes(f + " is final if static", !isStatic || Modifier.isFinal(f.getModifiers()));
                fields += isStatic ? 0 : 1;
                if (c == MoonVeto.class) {
                    yes(f + " is public or private", Modifier.isPublic(f.getModifiers()) || Modifier.isPrivate(f.getModifiers()));
                }
            }
            yes(c + " has at most twenty fields", fields <= 20);
        }
        yes("at most twelve classes", classes().length <= 12);
    }

    private static void source() throws IOException {
        C.part("source");
        String source = Files.readString(Path.of("src/main/java/MoonVeto.java"));
        String code = source.replaceAll("(?s)/\\*.*?\\*/", "").replaceAll("//.*", "");
        Matcher word = Pattern.compile(FORBIDDEN).matcher(code);
        while (word.find()) {
            yes("the code has no " + word.group(), false);
        }
        int opened = 0;
        for (String line : code.split("\n")) {
            yes("a line is short: " + line, line.length() <= 120);
            boolean ends = line.matches(" {4}(?: {4})?}");
            opened = line.matches(" {4}(?: {4})?[a-z].*\\) \\{") ? 1 : ends ? 0 : opened == 0 ? 0 : opened + 1;
            yes("a method is short, at: " + line, opened <= 60);
        }
    }

    private static Object any(Random random, Class<?> type) {
        if (type == boolean.class) {
            return random.nextBoolean();
        }
        int[] edges = {Integer.MIN_VALUE, Integer.MAX_VALUE, -1, 60, 61, 99, 100, 109, 110, 10, 9, 29, 30, 54, 55};
        return switch (random.nextInt(4)) {
            case 0 -> edges[random.nextInt(edges.length)];
            case 1 -> random.nextInt(120) - 5;
            default -> random.nextInt(8) - 1;
        };
    }

    /** No call throws, for any numbers in any state; refusals change nothing of what many(..) tells. */
    private static void anyNumbers() throws Exception {
        C.part("any numbers");
        Random random = new Random(7);
        Method[] methods = MoonVeto.class.getDeclaredMethods();
        java.util.Arrays.sort(methods, java.util.Comparator.comparing(Method::getName));
        String[] texts = {"m055925;b12665;s12062;r30603;b40669;r55623;b70165", "m002029;r00001;r00111;r00221"};
        for (int run = 0; run < 300; run++) {
            MoonVeto x = run % 3 == 2 ? new MoonVeto() : Checks.of(texts[run % 3]);
            for (int call = 0; call < 400; call++) {
                Method m = methods[random.nextInt(methods.length)];
                if (!Modifier.isPublic(m.getModifiers())) {
                    continue;
                }
                Class<?>[] types = m.getParameterTypes();
                Object[] given = new Object[types.length];
                for (int k = 0; k < given.length; k++) {
                    given[k] = any(random, types[k]);
                }
                try {
                    m.invoke(x, given);
                } catch (java.lang.reflect.InvocationTargetException e) {
                    yes(m.getName() + java.util.Arrays.toString(given) + " does not throw " + e.getCause(), false);
                }
            }
        }
    }
}
