import java.lang.reflect.Field;
import java.lang.reflect.Method;
import java.lang.reflect.Modifier;
import java.nio.file.Files;
import java.nio.file.Path;
import java.util.ArrayList;
import java.util.Arrays;
import java.util.HashMap;
import java.util.List;
import java.util.Map;
import java.util.TreeSet;
import java.util.regex.Matcher;
import java.util.regex.Pattern;

// The public face, and those rules of LANGUAGE.md that can be seen in the text of src/main/java/Pc32.java.
public final class LanguageTest {
    private static final Pattern CALL = Pattern.compile("\\b([a-z][A-Za-z0-9]*)\\(");
    private static final Map<String, String> bodies = new HashMap<>();

    private static void face() {
        TreeSet<String> members = new TreeSet<>();
        for (Field field : Pc32.class.getDeclaredFields()) {
            if (!Modifier.isPrivate(field.getModifiers())) members.add(field.toString());
        }
        for (Method method : Pc32.class.getDeclaredMethods()) {
            if (!Modifier.isPrivate(method.getModifiers())) members.add(method.toString());
        }
        members.add(Pc32.class.getDeclaredConstructors()[0].toString());
        String due = "public boolean Pc32.irq(int);public boolean Pc32.poke(int,long,int);public boolean Pc32.setReg(int,int);"
            + "public int Pc32.portWrite(int);public int Pc32.portWrites();public int Pc32.reg(int);public int Pc32.run(int);"
            + "public int Pc32.status();public int Pc32.translate(int,int);public long Pc32.peek(int,int);"
            + "public static final int Pc32.HALTED;public static final int Pc32.RUNNING;public static final int Pc32.SHUTDOWN;"
            + "public void Pc32.reset();public Pc32(int)";
        TreeSet<String> wanted = new TreeSet<>(Arrays.asList(due.split(";")));
        if (!members.equals(wanted)) System.out.println("the face is " + members);
        Expect.yes("the face is the document's", members.equals(wanted));
        Expect.same("one constructor", Pc32.class.getDeclaredConstructors().length, 1);
        Expect.yes("final", Modifier.isFinal(Pc32.class.getModifiers()));
    }

    private static void fields() {
        int count = 0;
        for (Field field : Pc32.class.getDeclaredFields()) {
            Class<?> type = field.getType();
            boolean isStatic = Modifier.isStatic(field.getModifiers());
            if (isStatic) Expect.yes(field + " is a number", type == int.class || type == long.class);
            else count++;
            if (isStatic) Expect.yes(field + " is final", Modifier.isFinal(field.getModifiers()));
            Expect.yes(field + " is of numbers", type.isPrimitive() || type.getComponentType().isPrimitive());
        }
        Expect.yes(count + " fields are at most 40", count <= 40);
    }

    private static void words(String text) {
        String[] forbidden = {"import", "package", "null", "throw", "throws", "try", "catch", "synchronized", "assert", "instanceof",
            "float", "double", "String", "Math", "Integer", "Long", "System", "Arrays", "Object", "enum", "interface", "record",
            "protected", "extends", "implements", "volatile", "native", "var", "getClass", "hashCode", "equals", "toString",
            "notify", "notifyAll", "wait", "clone", "finalize"};
        for (String word : forbidden) {
            Expect.no("the word " + word + " stands there", Pattern.compile("\\b" + word + "\\b").matcher(text).find());
        }
        Expect.no("a lambda stands there", text.contains("->"));
        Expect.no("a method reference stands there", text.contains("::"));
        Expect.no("a text stands there", text.contains("\""));
        Expect.same("classes", text.split("\\bclass\\b", -1).length - 1, 1);
    }

    /** Rule 4: every "new" makes the one array of a final field, with a length that is a constant. */
    private static void arrays(List<String> lines) {
        for (String line : lines) {
            if (!line.matches(".*\\bnew\\b.*")) continue;
            boolean ofField = line.matches("    private final (\\w+)\\[\\] \\w+ = new \\1\\[[A-Z0-9_]+\\];");
            Expect.yes("made in the initialiser of a final field: " + line.trim(), ofField);
        }
    }

    /** Rule 8: a loop counts from 0 up to a bound; the one "while" counts the steps that are done. */
    private static void loops(List<String> lines) {
        for (int i = 0; i < lines.size(); i++) {
            String line = lines.get(i).trim();
            if (!line.matches(".*\\b(for|while|do)\\b.*")) continue;
            boolean counts = line.matches("for \\(int (\\w+) = 0; \\1 < \\w+; \\1\\+\\+\\) .*");
            boolean steps = line.equals("while (done < bound) {") && bodies.get("run").contains("\n            done++;\n");
            Expect.yes("the loop has an end: " + line, counts || steps);
        }
        Expect.no("a loop goes on before its counter moves", String.join("\n", lines).contains("continue"));
    }

    private static void readBodies(List<String> lines) {
        Pattern head = Pattern.compile("    (?:public|private) .*?([A-Za-z0-9]+)\\(.*\\) \\{");
        String name = "";
        StringBuilder body = new StringBuilder();
        int length = 0;
        for (String line : lines) {
            Matcher matcher = head.matcher(line);
            if (matcher.matches()) {
                name = matcher.group(1);
                body.setLength(0);
                length = 0;
            } else if (line.equals("    }")) {
                Expect.no("two methods are called " + name, bodies.containsKey(name));
                bodies.put(name, body.toString());
                Expect.yes(name + " has " + length + " lines, at most 60", length <= 60);
            } else {
                body.append(line).append('\n');
                length++;
            }
        }
    }

    private static List<String> callsIn(String text) {
        List<String> calls = new ArrayList<>();
        Matcher matcher = CALL.matcher(text);
        while (matcher.find()) if (bodies.containsKey(matcher.group(1))) calls.add(matcher.group(1));
        return calls;
    }

    /** How many methods stand in the longest chain of calls from this one on; far too many where there is recursion. */
    private static int depth(String name, int above) {
        if (above > 20) return 100;
        int deepest = 0;
        for (String called : callsIn(bodies.get(name))) deepest = Math.max(deepest, depth(called, above + 1));
        return deepest + 1;
    }

    private static void arguments(String name, String body) {
        Matcher matcher = CALL.matcher(body);
        while (matcher.find()) {
            if (!bodies.containsKey(matcher.group(1))) continue;
            int open = 1;
            int end = matcher.end();
            while (open > 0) {
                char c = body.charAt(end++);
                if (c == '(') open++;
                if (c == ')') open--;
            }
            String inside = body.substring(matcher.end(), end);
            Expect.yes(name + " has no call inside the arguments of " + matcher.group(1), callsIn(inside).isEmpty());
        }
    }

    private static void methods() {
        for (Method method : Pc32.class.getDeclaredMethods()) {
            Expect.yes(method + " has at most seven parameters", method.getParameterCount() <= 7);
            Expect.yes(method + " was found in the text", bodies.containsKey(method.getName()));
        }
        Expect.same("methods and constructor", bodies.size(), Pc32.class.getDeclaredMethods().length + 1);
        for (String name : bodies.keySet()) {
            int depth = depth(name, 0);
            Expect.yes(name + " goes " + depth + " deep, at most 6", depth <= 6);
            Expect.no(name + " makes an array or object", bodies.get(name).contains("new "));
            arguments(name, bodies.get(name));
        }
    }

    public static void main(String[] args) throws java.io.IOException {
        List<String> lines = new ArrayList<>();
        for (String line : Files.readAllLines(Path.of("src/main/java/Pc32.java"))) lines.add(line.replaceAll("\\s*//.*", ""));
        face();
        fields();
        words(String.join("\n", lines));
        readBodies(lines);
        methods();
        arrays(lines);
        loops(lines);
        Expect.end("LanguageTest");
    }
}
