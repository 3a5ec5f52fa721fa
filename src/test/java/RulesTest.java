import java.lang.reflect.Method;
import java.lang.reflect.Modifier;
import java.util.ArrayList;
import java.util.Arrays;
import java.util.HashMap;
import java.util.HashSet;
import java.util.List;
import java.util.Map;
import java.util.Set;
import java.util.TreeSet;

/** Those rules of LANGUAGE.md that only the compiled classes show: what is called, how deep, and what is never done. */
public final class RulesTest {
    private static final int DEEPEST = 8;
    private static final String LIBRARY =
        "java/lang/Object\\.<init>"
        + "|java/lang/String\\.(length|charAt|isEmpty|equals|indexOf|substring|toCharArray|<init>)"
        + "|java/lang/StringBuilder\\.(<init>|append|charAt|setCharAt|setLength|deleteCharAt|reverse|length|toString)"
        + "|java/util/(ArrayList|List)\\.(<init>|add|get|set|remove|size|isEmpty|clear|of)"
        + "|java/lang/(Integer|Long|Math)\\.(?!\\w*Exact)\\w+"
        + "|java/lang/System\\.arraycopy"
        + "|java/util/Arrays\\.(copyOf|copyOfRange|fill)"
        + "|\\[[IJSBCZDF]\\.clone";
    private static final int[] NEVER = {ClassFile.THROW, ClassFile.INVOKE_DYNAMIC, ClassFile.LOCK, ClassFile.UNLOCK};
    private static final int[] MAKING =
        {ClassFile.NEW, ClassFile.NEW_ARRAY, ClassFile.NEW_OBJECT_ARRAY, ClassFile.NEW_ARRAYS};

    private static final Map<String, ClassFile.Code> METHODS = new HashMap<>();
    private static final Map<String, Integer> DEPTHS = new HashMap<>();

    private RulesTest() {
    }

    public static void main(String[] args) throws Exception {
        List<Class<?>> all = new ArrayList<>(Arrays.asList(SenateRoll.class.getDeclaredClasses()));
        all.add(SenateRoll.class);
        for (Class<?> one : all) {
            Check.same("no class inside a class inside: " + one, one == SenateRoll.class ? 0 : one.getDeclaredClasses().length, 0);
            for (ClassFile.Code code : new ClassFile(one).methods) {
                METHODS.put(code.whole(), code);
            }
        }
        names(all);
        for (ClassFile.Code code : METHODS.values()) {
            calls(code);
            instructions(code);
            holds("eight deep at most: " + code.whole(), depthOf(code.whole(), new HashSet<>()) <= DEEPEST);
        }
        Check.end("RulesTest");
    }

    private static void holds(String what, boolean is) {
        Check.same(what, is ? 1 : 0, 1);
    }

    /** Rule 1, taken for every class: what has a name of the face is the face. */
    private static void names(List<Class<?>> all) {
        Set<String> face = new TreeSet<>();
        for (Method m : SenateRoll.class.getDeclaredMethods()) {
            if (Modifier.isPublic(m.getModifiers())) {
                face.add(m.getName());
            }
        }
        for (Class<?> one : all) {
            for (Method m : one.getDeclaredMethods()) {
                boolean ofTheFace = one == SenateRoll.class && Modifier.isPublic(m.getModifiers());
                holds("no name of the face: " + m, ofTheFace || !face.contains(m.getName()));
            }
        }
    }

    /** Rules 4 and 8: no library but what is listed; what calls itself is private and static. */
    private static void calls(ClassFile.Code code) {
        for (String call : code.calls) {
            boolean own = METHODS.containsKey(call);
            holds(code.whole() + " calls " + call, own || call.replaceFirst("\\(.*", "").matches(LIBRARY));
        }
        int needed = Modifier.PRIVATE | Modifier.STATIC;
        holds("calls itself, so private and static: " + code.whole(),
            !code.calls.contains(code.whole()) || (code.access & needed) == needed);
    }

    /** Rules 6 and 12: nothing is thrown, caught or locked; what is made is made in constructors alone. */
    private static void instructions(ClassFile.Code code) {
        Check.same("catches in " + code.whole(), code.handlers, 0);
        for (int one : NEVER) {
            holds("no instruction " + one + " in " + code.whole(), !code.instructions.contains(one));
        }
        boolean first = code.name.equals("<init>") || code.name.equals("<clinit>");
        for (int one : MAKING) {
            holds("nothing is made by a call: " + code.whole(), first || !code.instructions.contains(one));
        }
    }

    /** How many calls stand open at most from this method on, itself among them, but for those that it makes of itself. */
    private static int depthOf(String method, Set<String> above) {
        ClassFile.Code code = METHODS.get(method);
        if (code == null) {
            return 0;
        }
        Integer found = DEPTHS.get(method);
        if (found != null) {
            return found;
        }
        holds("no methods that call one another: " + method, above.add(method));
        int deepest = 0;
        for (String call : code.calls) {
            if (!call.equals(method) && !above.contains(call)) {
                deepest = Math.max(deepest, depthOf(call, above));
            } else if (!call.equals(method)) {
                holds("no methods that call one another: " + method + " and " + call, false);
            }
        }
        above.remove(method);
        DEPTHS.put(method, deepest + 1);
        return deepest + 1;
    }
}
