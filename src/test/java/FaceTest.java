import java.lang.reflect.Constructor;
import java.lang.reflect.Field;
import java.lang.reflect.Method;
import java.lang.reflect.Modifier;
import java.nio.file.Files;
import java.nio.file.Path;
import java.util.ArrayList;
import java.util.Arrays;
import java.util.List;
import java.util.Set;
import java.util.TreeSet;
import java.util.regex.Matcher;
import java.util.regex.Pattern;

/** The public face as the document writes it, and those rules of LANGUAGE.md that can be looked up in the class or its text. */
public final class FaceTest {
    private static final Path DOC = Path.of("../shared/DOC.md");
    private static final Path SOURCE = Path.of("src/main/java/SenateRoll.java");
    private static final Pattern METHOD = Pattern.compile("public (\\w+) (\\w+)\\((.*)\\);");

    private FaceTest() {
    }

    public static void main(String[] args) throws Exception {
        constants();
        methods();
        nothingElse();
        classes();
        source();
        Check.end("FaceTest");
    }

    private static void holds(String what, boolean is) {
        Check.same(what, is ? 1 : 0, 1);
    }

    private static void constants() {
        Check.same("NONE", SenateRoll.NONE, -1);
        Check.same("BAD", SenateRoll.BAD, -2);
        Check.same("NO", SenateRoll.NO, -3);
        Check.same("FULL", SenateRoll.FULL, -4);
    }

    private static Set<String> documented() throws Exception {
        Set<String> face = new TreeSet<>();
        Matcher m = METHOD.matcher(Files.readString(DOC));
        while (m.find()) {
            face.add(m.group(1) + " " + m.group(2) + "(" + m.group(3).replaceAll(" \\w+(, |$)", " ").trim() + ")");
        }
        return face;
    }

    private static void methods() throws Exception {
        Set<String> face = new TreeSet<>();
        for (Method m : SenateRoll.class.getDeclaredMethods()) {
            if (Modifier.isPublic(m.getModifiers())) {
                StringBuilder types = new StringBuilder();
                for (Class<?> type : m.getParameterTypes()) {
                    types.append(type.getSimpleName()).append(' ');
                }
                face.add(m.getReturnType().getSimpleName() + " " + m.getName() + "(" + types.toString().trim() + ")");
            }
        }
        Set<String> due = documented();
        Check.same("methods of the document", due.size(), 46);
        holds("the face " + face + " is that of the document " + due, face.equals(due));
    }

    private static void nothingElse() {
        Class<?> roll = SenateRoll.class;
        holds("public and final", Modifier.isPublic(roll.getModifiers()) && Modifier.isFinal(roll.getModifiers()));
        Set<String> names = new TreeSet<>();
        for (Method m : roll.getDeclaredMethods()) {
            if (Modifier.isPublic(m.getModifiers())) {
                names.add(m.getName());
            }
        }
        List<Class<?>> all = new ArrayList<>(Arrays.asList(roll.getDeclaredClasses()));
        all.add(roll);
        for (Class<?> one : all) {
            for (Method m : one.getDeclaredMethods()) {
                boolean face = one == roll && Modifier.isPublic(m.getModifiers());
                holds("no other " + m, face || one != roll || Modifier.isPrivate(m.getModifiers()));
                holds("no private method bears the name of a public one: " + m,
                    face || one != roll || !names.contains(m.getName()));
                holds("seven parameters at most: " + m, m.getParameterCount() <= 7);
            }
        }
        for (Field f : roll.getDeclaredFields()) {
            boolean constant = Modifier.isPublic(f.getModifiers()) && Set.of("NONE", "BAD", "NO", "FULL").contains(f.getName());
            holds("no other " + f, constant || Modifier.isPrivate(f.getModifiers()));
        }
        Constructor<?>[] made = roll.getDeclaredConstructors();
        holds("one constructor", made.length == 1 && Modifier.isPublic(made[0].getModifiers()) && made[0].getParameterCount() == 0);
    }

    private static void classes() {
        Class<?>[] inside = SenateRoll.class.getDeclaredClasses();
        holds("some twelve classes at most", inside.length + 1 <= 14);
        for (Class<?> one : inside) {
            boolean shown = Modifier.isPublic(one.getModifiers()) || Modifier.isProtected(one.getModifiers());
            holds("static, private or package-visible: " + one, Modifier.isStatic(one.getModifiers()) && !shown);
        }
        List<Class<?>> all = new ArrayList<>(Arrays.asList(inside));
        all.add(SenateRoll.class);
        for (Class<?> one : all) {
            int fields = 0;
            for (Field f : one.getDeclaredFields()) {
                boolean shared = Modifier.isStatic(f.getModifiers());
                fields += shared ? 0 : 1;
                holds("static, so final: " + f, !shared || Modifier.isFinal(f.getModifiers()));
            }
            holds("twenty fields at most: " + one, fields <= 20);
        }
    }

    private static void source() throws Exception {
        String whole = Files.readString(SOURCE);
        holds("ASCII alone", whole.chars().allMatch(c -> c < 128));
        String code = whole.replaceAll("(?s)/\\*.*?\\*/", "").replaceAll("//[^\n]*", "");
        holds("no joining of texts by +", !Pattern.compile("\"\\s*\\+|\\+\\s*\"").matcher(code).find());
        code = code.replaceAll("\"[^\"\n]*\"", "\"\"").replaceAll("'[^'\n]*'", "' '");
        String[] words = {"throw", "try", "catch", "finally", "synchronized", "assert", "native", "transient", "volatile",
            "hashCode", "System\\.out", "System\\.err", "Thread", "Random", "package", "protected"};
        for (String word : words) {
            holds("no " + word, !Pattern.compile("\\b" + word + "\\b").matcher(code).find());
        }
        holds("no lambda or method reference", !code.contains("->") && !code.contains("::"));
        Matcher imports = Pattern.compile("import ([^;]*);").matcher(code);
        while (imports.find()) {
            holds("no import but these: " + imports.group(1), imports.group(1).matches("java\\.util\\.(Arrays|ArrayList|List|Iterator)"));
        }
        lengths(whole);
    }

    private static void lengths(String whole) {
        int start = 0, number = 0;
        boolean inMethod = false;
        for (String line : whole.split("\n")) {
            number++;
            if (!inMethod && line.matches(" {4}( {4})?[\\w<>\\[\\] ]+\\(.*\\) \\{")) {
                inMethod = true;
                start = number;
            } else if (inMethod && line.matches(" {4}( {4})?\\}")) {
                inMethod = false;
                holds("sixty lines at most in the method of line " + start, number - start <= 60);
            }
        }
    }
}
