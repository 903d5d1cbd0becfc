import java.io.IOException;
import java.lang.reflect.Array;
import java.lang.reflect.Constructor;
import java.lang.reflect.Field;
import java.lang.reflect.Member;
import java.lang.reflect.Method;
import java.lang.reflect.Modifier;
import java.nio.file.Files;
import java.nio.file.Path;
import java.util.ArrayList;
import java.util.Arrays;
import java.util.IdentityHashMap;
import java.util.List;
import java.util.Map;
import java.util.Set;
import java.util.TreeSet;

/** The public face as the document has it, and the rules of LANGUAGE.md that can be looked up. */
public final class FaceTest {
    private static final String[] FACE = {
        "int feed(int,int,int,int,int)", "int end(int)", "int text()", "int fault(int)", "boolean by(int)",
        "boolean length(int)", "int join(int,int)", "boolean leave(int)", "int turn()", "boolean shift(int)",
        "int day(int)", "int played(int)", "int years(int,int)", "int undo()", "int of(int,int)", "int at(int)",
        "int is(int)", "int book(int,int)", "int foretold(int)", "int can(int)", "long rows(int,int)",
        "int row(int,int,int)", "int rowAt(int,int,int,int)", "long often(int,int,int,int)", "int pinned(int,int)",
        "int fewest(int)", "long kinds(int,int)", "long rounds(int)", "long threes(int)", "long ways(int)",
        "int fill(int,int)", "int forced(int)", "int stay(int)", "long likely(int,boolean)", "int most(int,boolean)",
        "int game(int,int)", "int play(int,int)", "int said(int,int)", "int whose()", "int eldest()", "int widest()",
        "boolean mirror()", "int crossed()", "int nested()", "int spread()", "int room()", "int ledger(int)",
        "int image()", "int back()", "int about(int)"};
    private static final String[] FORBIDDEN = {"throw", "throws", "try", "catch", "finally", "synchronized", "assert",
        "native", "volatile", "transient", "Object", "Exact", "while", "new Thread"};

    private static int wrong = 0;

    public static void main(String[] args) throws IOException, IllegalAccessException {
        members();
        nestedClasses();
        size();
        // .ci/run tells where the source is
        String source = System.getProperty("source");
        if (source != null) {
            words(Files.readString(Path.of(source)));
        }
        System.out.println(wrong == 0 ? "the face is as due" : wrong + " faults of the face");
        if (wrong != 0) {
            System.exit(1);
        }
    }

    private static void due(boolean holds, String what) {
        if (!holds) {
            wrong++;
            System.out.println(what);
        }
    }

    private static void members() {
        Class<?> face = Procession.class;
        due(Modifier.isPublic(face.getModifiers()) && Modifier.isFinal(face.getModifiers()), "public and final");
        Set<String> found = new TreeSet<>();
        for (Method m : face.getDeclaredMethods()) {
            if (Modifier.isPublic(m.getModifiers())) {
                List<String> types = new ArrayList<>();
                for (Class<?> type : m.getParameterTypes()) {
                    types.add(type.getName());
                }
                found.add(m.getReturnType().getName() + " " + m.getName() + "(" + String.join(",", types) + ")");
                due(!Modifier.isStatic(m.getModifiers()), m + " is static");
            } else {
                due(isPrivate(m), m + " isn't private");
            }
        }
        due(found.equals(new TreeSet<>(Arrays.asList(FACE))), "the public methods are " + found);
        for (Field f : face.getDeclaredFields()) {
            due(isPrivate(f) || f.getName().equals("NONE"), f + " isn't private");
        }
        Constructor<?>[] made = face.getDeclaredConstructors();
        due(made.length == 1 && made[0].getParameterCount() == 0 && Modifier.isPublic(made[0].getModifiers()), "one constructor");
        due(Procession.NONE == -1, "NONE");
    }

    private static boolean isPrivate(Member m) {
        return Modifier.isPrivate(m.getModifiers());
    }

    private static void nestedClasses() {
        Set<String> names = new TreeSet<>();
        for (String method : FACE) {
            names.add(method.substring(method.indexOf(' ') + 1, method.indexOf('(')));
        }
        Class<?>[] inside = Procession.class.getDeclaredClasses();
        due(inside.length < 12, inside.length + " classes inside");
        for (Class<?> one : inside) {
            due(Modifier.isStatic(one.getModifiers()) && !Modifier.isPublic(one.getModifiers()), one + " isn't static");
            for (Method m : one.getDeclaredMethods()) {
                due(!names.contains(m.getName()), m + " bears a public name");
                due(m.getParameterCount() <= 7, m + " takes too much");
            }
            int own = 0;
            for (Field f : one.getDeclaredFields()) {
                boolean isStatic = Modifier.isStatic(f.getModifiers());
                own += isStatic ? 0 : 1;
                due(!isStatic || Modifier.isFinal(f.getModifiers()), f + " isn't final");
            }
            due(own <= 20, one + " has " + own + " fields");
        }
        for (Method m : Procession.class.getDeclaredMethods()) {
            due(!isPrivate(m) || !names.contains(m.getName()), m + " bears a public name");
        }
    }

    /** All objects of a run share one room of 600,000 of them and 7.3 million elements: one must be far below. */
    private static void size() throws IllegalAccessException {
        Map<Object, Integer> parts = new IdentityHashMap<>();
        gather(new Procession(), parts);
        int elements = parts.values().stream().mapToInt(Integer::intValue).sum();
        due(parts.size() <= 60 && elements <= 14000, "an object has " + parts.size() + " parts of " + elements + " elements");
    }

    /** Puts down each object that is part of one, with how many fields or elements it has. */
    private static void gather(Object one, Map<Object, Integer> parts) throws IllegalAccessException {
        if (one == null || parts.containsKey(one) || one instanceof String) {
            return;
        }
        if (one.getClass().isArray()) {
            parts.put(one, Array.getLength(one));
            for (int i = 0; one instanceof Object[] && i < Array.getLength(one); i++) {
                gather(Array.get(one, i), parts);
            }
            return;
        }
        List<Field> own = new ArrayList<>();
        for (Field f : one.getClass().getDeclaredFields()) {
            if (!Modifier.isStatic(f.getModifiers())) {
                own.add(f);
            }
        }
        parts.put(one, own.size());
        for (Field f : own) {
            if (!f.getType().isPrimitive()) {
                f.setAccessible(true);
                gather(f.get(one), parts);
            }
        }
    }

    private static void words(String source) {
        String code = source.replaceAll("(?s)/\\*.*?\\*/", " ").replaceAll("//[^\n]*", " ").replaceAll("\"[^\"]*\"", "\"\"");
        for (String word : FORBIDDEN) {
            due(!code.matches("(?s).*\\b" + word + "\\b.*"), "'" + word + "' stands in the source");
        }
        due(!code.contains("->") && !code.contains("::"), "a lambda or a method reference");
        for (String line : code.split("\n")) {
            due(!line.startsWith("import ") || line.equals("import java.util.Arrays;"), line);
        }
        due(!code.contains("package "), "a package");
        due(source.chars().allMatch(c -> c >= 10 && c < 127), "a sign that is no plain one");
    }
}
