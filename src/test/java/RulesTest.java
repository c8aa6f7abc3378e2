import java.io.IOException;
import java.lang.reflect.Array;
import java.lang.reflect.Constructor;
import java.lang.reflect.Field;
import java.lang.reflect.Method;
import java.lang.reflect.Modifier;
import java.nio.file.Files;
import java.nio.file.Path;
import java.util.ArrayDeque;
import java.util.Collections;
import java.util.HashSet;
import java.util.IdentityHashMap;
import java.util.List;
import java.util.Set;
import java.util.regex.Matcher;
import java.util.regex.Pattern;

/** What can be seen from outside of the rules of LANGUAGE.md and of the room that a run has. */
public final class RulesTest {
    private static final String FACE = "star walk gone hour clouds sight land ship feed law tale starIs seen line sky"
            + " figure matched where when alike known named sold steered hours found meeting fastest byTwo both hidden"
            + " log over home seed keep undo check count";
    private static int wrong = 0;

    private static void must(boolean is, String what) {
        if (!is) {
            wrong++;
            System.out.println(what);
        }
    }

    private static void face() {
        Set<String> names = new HashSet<>(List.of(FACE.split(" ")));
        must(Modifier.isFinal(StarTales.class.getModifiers()), "the class is not final");
        int methods = 0;
        for (Method m : StarTales.class.getDeclaredMethods()) {
            boolean isFace = names.contains(m.getName());
            must(isFace == Modifier.isPublic(m.getModifiers()), "method " + m + " is not as the face has it");
            must(isFace || Modifier.isPrivate(m.getModifiers()), "method " + m + " is not private");
            methods += isFace ? 1 : 0;
        }
        must(methods == names.size() && methods == 39, "the face has " + methods + " methods");
        for (Field f : StarTales.class.getDeclaredFields()) {
            boolean isNone = f.getName().equals("NONE");
            must(isNone == Modifier.isPublic(f.getModifiers()), "field " + f + " is not as the face has it");
            must(isNone || Modifier.isPrivate(f.getModifiers()), "field " + f + " is not private");
        }
        Constructor<?>[] made = StarTales.class.getDeclaredConstructors();
        must(made.length == 1 && Modifier.isPublic(made[0].getModifiers()), "there is another constructor");
        Class<?>[] inside = StarTales.class.getDeclaredClasses();
        must(inside.length < 12, "there are " + (inside.length + 1) + " classes");
        for (Class<?> c : inside) {
            must(Modifier.isStatic(c.getModifiers()), c + " is not static");
            insideClass(c, names);
        }
        insideClass(StarTales.class, new HashSet<>());
    }

    private static void insideClass(Class<?> c, Set<String> names) {
        int fields = 0;
        for (Field f : c.getDeclaredFields()) {
            boolean isStatic = Modifier.isStatic(f.getModifiers());
            must(!isStatic || Modifier.isFinal(f.getModifiers()), f + " is static and not final");
            fields += isStatic ? 0 : 1;
        }
        must(fields <= 20, c + " has " + fields + " fields");
        for (Method m : c.getDeclaredMethods()) {
            must(!names.contains(m.getName()), m + " bears the name of a public method");
            must(m.getParameterCount() <= 7, m + " has too many parameters");
        }
    }

    private static void source() throws IOException {
        String text = Files.readString(Path.of("src/main/java/StarTales.java"));
        String code = text.replaceAll("(?s)/\\*.*?\\*/", "").replaceAll("//[^\n]*", "");
        String words = "throw try catch synchronized assert instanceof yield var record enum interface abstract Math\\.\\w+Exact"
                + " System\\.(?!arraycopy) Object equals hashCode toString package";
        for (String word : words.split(" ")) {
            Matcher m = Pattern.compile("\\b" + word).matcher(code);
            must(!m.find(), "the source has " + word);
        }
        must(!code.contains("->") && !code.contains("::"), "the source has a lambda");
        must(code.replace("import java.util.Arrays;", "").indexOf("import ") < 0, "the source imports something else");
        must(text.chars().allMatch(c -> c == '\n' || (c >= 32 && c < 127)), "the source has other signs");
        int begun = 0;
        String[] lines = text.split("\n");
        for (int k = 0; k < lines.length; k++) {
            if (lines[k].matches(" {4,8}(public|private|static|int|boolean|void|[A-Z]\\w+\\().*\\) \\{")) {
                begun = k;
            } else if (lines[k].matches(" {4,8}}") && begun > 0) {
                must(k - begun <= 60, "a method at line " + (begun + 1) + " is too long");
                begun = 0;
            }
        }
    }

    /** Counts what hangs on an object: objects and arrays, fields and elements. */
    private static int[] room(Object from) throws IllegalAccessException {
        Set<Object> met = Collections.newSetFromMap(new IdentityHashMap<>());
        ArrayDeque<Object> todo = new ArrayDeque<>();
        todo.add(from);
        met.add(from);
        int cells = 0;
        while (!todo.isEmpty()) {
            Object o = todo.pop();
            if (o.getClass().isArray()) {
                cells += Array.getLength(o);
                continue;
            }
            for (Field f : o.getClass().getDeclaredFields()) {
                if (Modifier.isStatic(f.getModifiers())) {
                    continue;
                }
                cells++;
                f.setAccessible(true);
                Object part = f.getType().isPrimitive() ? null : f.get(o);
                if (part != null && met.add(part)) {
                    todo.add(part);
                }
            }
        }
        return new int[] {met.size(), cells};
    }

    /** No call may ever throw: nothing that is counted from call to call may run over, however many calls come. */
    private static void manyCalls() {
        StarTales t = new StarTales();
        for (int i = 0; i < 24; i++) {
            t.star(i, i, 0, 1);
        }
        t.ship(0, 0, 11);
        for (int call = 0; call < 60000; call++) {
            must(t.byTwo(0, 1, 11, 12, 0) == -2, "byTwo answers another thing at call " + call);
        }
        for (int call = 0; call < 60000; call++) {
            t.hours(240);
            t.keep();
            t.undo();
            t.steered(0, call % 24, 48, true);
        }
        must(t.count(20) == 264, "the ship that sees nothing has gone");
    }

    public static void main(String[] args) throws IOException, IllegalAccessException {
        face();
        source();
        manyCalls();
        int[] room = room(new StarTales());
        System.out.println("a new object: " + room[0] + " objects, " + room[1] + " fields and elements");
        must(room[0] <= 150 && room[1] <= 8000, "a new object takes more room than it did");
        System.out.println(wrong == 0 ? "all rules are kept" : wrong + " rules are not kept");
        if (wrong != 0) {
            System.exit(1);
        }
    }
}
