import java.lang.reflect.Array;
import java.lang.reflect.Constructor;
import java.lang.reflect.Field;
import java.lang.reflect.Method;
import java.lang.reflect.Modifier;
import java.nio.charset.StandardCharsets;
import java.nio.file.Files;
import java.nio.file.Path;
import java.util.ArrayList;
import java.util.Arrays;
import java.util.IdentityHashMap;
import java.util.List;
import java.util.Map;
import java.util.Set;
import java.util.TreeSet;
import java.util.regex.Pattern;

/** The members of the document's face, and the rules of LANGUAGE.md that can be looked up. */
public final class FaceTest {
    private static final String[] METHODS = {
        "int door(int,int,int,int)", "int man(int,int,int,int)", "int of(int,int)", "int at(int,int)",
        "int power(int,int)", "int type(int)", "int read()", "int count(int)", "int attempt(int,int)",
        "int whisper(int,int)", "int set(int,int,int)", "int study(int)", "int drift(int)", "int undo()",
        "int seed(int)", "int way(int,int,int)", "int ways(int,int)", "int reach(int)", "int round(int,int)",
        "int cut(int,int,int)", "int bridges(int,int)", "int wit(int,int)", "int lesson(int,int)",
        "int meet(int,int,int)", "int hunt(int,int,int)", "long wander(int,int,int,int)", "int image()",
        "int restore()", "int heard(int,int,int,int,int,int)", "int film(int,int,int,int,int)",
        "int sheet(int,int,int)", "int drop(int)", "int item(int,int,int,long)", "int copy(int,int,int,int,int)",
    };
    private static final String[] CONSTANTS = {
        "BAD=-1", "NOT=-2", "FULL=-3", "NONE=-4", "NULL=-11", "CAST=-12", "INDEX=-13", "SIZE=-14",
    };
    private static final String[] WORDS_RULED_OUT = {
        "\\bcatch\\b", "\\bfinally\\b", "\\bsynchronized\\b", "\\bassert\\b", "->", "::", "\\bObject\\b",
        "Exact\\b", "\\bvar\\b", "\\bthread\\b", "\\bRandom\\b", "currentTime", "nanoTime", "\\bprotected\\b",
        "\\bpackage\\b", "static\\s*\\{",
    };

    private static final Due DUE = new Due();

    public static void main(String[] args) throws Exception {
        face();
        classes();
        text();
        room();
        DUE.end();
    }

    private static void face() throws Exception {
        Class<?> face = RiddlePrison.class;
        DUE.holds("the class is public and final", Modifier.isPublic(face.getModifiers())
            && Modifier.isFinal(face.getModifiers()));
        Set<String> methods = new TreeSet<>();
        for (Method method : face.getDeclaredMethods()) {
            if (!Modifier.isPrivate(method.getModifiers())) {
                methods.add(signature(method));
            }
        }
        DUE.holds("methods " + methods, methods.equals(new TreeSet<>(Arrays.asList(METHODS))));
        Set<String> constants = new TreeSet<>();
        for (Field field : face.getDeclaredFields()) {
            if (!Modifier.isPrivate(field.getModifiers())) {
                constants.add(field.getName() + "=" + field.get(null));
            }
        }
        DUE.holds("constants " + constants, constants.equals(new TreeSet<>(Arrays.asList(CONSTANTS))));
        Constructor<?>[] constructors = face.getDeclaredConstructors();
        DUE.is("constructors", constructors.length, 1);
        DUE.is("its parameters", constructors[0].getParameterCount(), 0);
        DUE.holds("it is public", Modifier.isPublic(constructors[0].getModifiers()));
    }

    private static String signature(Method method) {
        List<String> types = new ArrayList<>();
        for (Class<?> type : method.getParameterTypes()) {
            types.add(type.getName());
        }
        return method.getReturnType().getName() + " " + method.getName() + "(" + String.join(",", types) + ")";
    }

    private static void classes() {
        Set<String> names = new TreeSet<>();
        for (Method method : RiddlePrison.class.getMethods()) {
            if (method.getDeclaringClass() == RiddlePrison.class) {
                names.add(method.getName());
            }
        }
        Class<?>[] inside = RiddlePrison.class.getDeclaredClasses();
        DUE.holds("classes " + inside.length, inside.length < 12);
        members(RiddlePrison.class, names);
        for (Class<?> one : inside) {
            DUE.holds(one + " is private, static", Modifier.isPrivate(one.getModifiers())
                && Modifier.isStatic(one.getModifiers()));
            members(one, names);
        }
    }

    private static void members(Class<?> owner, Set<String> names) {
        int fields = 0;
        for (Field field : owner.getDeclaredFields()) {
            boolean fixed = Modifier.isStatic(field.getModifiers());
            DUE.holds(field + " is final if static", !fixed || Modifier.isFinal(field.getModifiers()));
            fields += fixed ? 0 : 1;
        }
        DUE.holds(owner + " has fields " + fields, fields <= 20);
        for (Method method : owner.getDeclaredMethods()) {
            DUE.holds(method + " has few parameters", method.getParameterCount() <= 7);
            DUE.holds(method + " has a name of its own", Modifier.isPublic(method.getModifiers())
                || !names.contains(method.getName()));
        }
    }

    /** What a new object takes of the room that all calls of a run share. */
    private static void room() throws Exception {
        Map<Object, Boolean> seen = new IdentityHashMap<>();
        int slots = slots(new RiddlePrison(), seen);
        DUE.holds(seen.size() + " objects in a new one", seen.size() <= 400);
        DUE.holds(slots + " fields and elements in a new one", slots <= 4500);
    }

    private static int slots(Object owner, Map<Object, Boolean> seen) throws Exception {
        if (owner == null || seen.put(owner, true) != null) {
            return 0;
        }
        int slots = 0;
        if (owner.getClass().isArray()) {
            boolean objects = !owner.getClass().getComponentType().isPrimitive();
            for (int k = 0; k < Array.getLength(owner); k++) {
                slots += 1 + (objects ? slots(Array.get(owner, k), seen) : 0);
            }
            return slots;
        }
        for (Field field : owner.getClass().getDeclaredFields()) {
            if (!Modifier.isStatic(field.getModifiers())) {
                field.setAccessible(true);
                slots += 1 + (field.getType().isPrimitive() ? 0 : slots(field.get(owner), seen));
            }
        }
        return slots;
    }

    private static void text() throws Exception {
        String source = Files.readString(Path.of("src/main/java/RiddlePrison.java"), StandardCharsets.UTF_8);
        for (int k = 0; k < source.length(); k++) {
            if (source.charAt(k) > 126) {
                DUE.holds("letter " + k + " is plain", false);
            }
        }
        for (String word : WORDS_RULED_OUT) {
            DUE.holds("without " + word, !Pattern.compile(word).matcher(source).find());
        }
        lengths(source.split("\n"));
        objects(source.split("\n"));
    }

    /** Rows are made by constructors alone, so that what a run makes does not grow with its calls. */
    private static void objects(String[] lines) {
        for (int k = 0; k < lines.length; k++) {
            boolean makes = Pattern.compile("\\bnew\\b").matcher(lines[k].replaceAll("/?\\*\\*.*|//.*", "")).find();
            boolean once = lines[k].matches("\\s+private final .* = new .*;|\\s+\\w+\\[k\\] = new \\w+\\(\\);");
            DUE.holds("line " + (k + 1) + " makes no object in a call", !makes || once);
        }
    }

    /** Methods stand 4 deep, and 8 deep in the classes inside. */
    private static void lengths(String[] lines) {
        String indent = "    ";
        int since = 0;
        for (int k = 0; k < lines.length; k++) {
            if (lines[k].startsWith("    private static final class ")) {
                indent = "        ";
            } else if (lines[k].equals("    }") && indent.length() == 8) {
                indent = "    ";
            } else if (lines[k].matches(indent + "\\S.*\\{")) {
                since = k;
            } else if (lines[k].equals(indent + "}")) {
                DUE.holds("the method that ends in line " + (k + 1) + " is short", k - since < 60);
            }
        }
    }
}
