import java.io.PrintWriter;
import java.io.StringWriter;
import java.lang.reflect.Array;
import java.lang.reflect.Field;
import java.lang.reflect.Modifier;
import java.util.ArrayDeque;
import java.util.ArrayList;
import java.util.Arrays;
import java.util.Collections;
import java.util.IdentityHashMap;
import java.util.List;
import java.util.Map;
import java.util.Set;
import java.util.TreeMap;
import java.util.TreeSet;
import java.util.regex.Matcher;
import java.util.regex.Pattern;
import java.util.spi.ToolProvider;

/** The rules of LANGUAGE.md that the compiled class shows: what it calls, how deep, what it makes. */
public final class RoomTest {
    private static final Due DUE = new Due("RoomTest");
    private static final int DEEPEST = 8;
    private static final Set<String> LIBRARY = Set.of("java/lang/Object.<init>", "java/lang/String.length",
            "java/lang/String.charAt", "java/lang/Integer.bitCount", "java/lang/Integer.numberOfTrailingZeros",
            "java/lang/Math.abs", "java/lang/Math.max", "java/lang/Math.min", "java/util/Arrays.fill");
    private static final Pattern METHOD = Pattern.compile("  .*?(\\S+)\\(.*\\);");
    private static final Pattern CALL = Pattern.compile("// (?:Interface)?Method (?:([\\w/$]+)\\.)?\"?([\\w<>$]+)\"?:");
    private static final Pattern MAKES = Pattern.compile("\\d+: (new|newarray|anewarray|multianewarray)\\b");
    private static final Pattern NEVER = Pattern.compile("\\d+: (athrow|invokedynamic|monitorenter|checkcast)\\b");

    private final Map<String, Set<String>> calls = new TreeMap<>();
    private final Set<String> makers = new TreeSet<>();

    public static void main(String[] args) throws ReflectiveOperationException {
        RoomTest test = new RoomTest();
        test.readClasses();
        test.library();
        test.depth();
        test.makers();
        room();
        DUE.end();
    }

    /** Notes for each method which others it calls, and whether it makes something. */
    private void readClasses() {
        List<String> names = new ArrayList<>(List.of("AirZone"));
        for (Class<?> inside : AirZone.class.getDeclaredClasses()) {
            names.add(inside.getName());
        }
        for (String name : names) {
            String method = "";
            for (String line : disassembled(name)) {
                Matcher head = METHOD.matcher(line);
                if (head.matches() && line.charAt(2) != ' ') {
                    method = name + "." + (head.group(1).equals(name) ? "<init>" : head.group(1));
                    calls.putIfAbsent(method, new TreeSet<>());
                } else if (line.equals("  static {};")) {
                    method = name + ".<clinit>";
                    calls.putIfAbsent(method, new TreeSet<>());
                }
                Matcher call = CALL.matcher(line);
                if (call.find()) {
                    calls.get(method).add((call.group(1) == null ? name : call.group(1)) + "." + call.group(2));
                }
                if (MAKES.matcher(line).find()) {
                    makers.add(method);
                }
                DUE.holds(method + " has no " + line.strip(), !NEVER.matcher(line).find());
            }
        }
        DUE.holds("the methods of the class are found", calls.size() > 150 && calls.containsKey("AirZone.about"));
    }

    private static String[] disassembled(String name) {
        ToolProvider javap = ToolProvider.findFirst("javap").orElseThrow();
        StringWriter out = new StringWriter();
        PrintWriter to = new PrintWriter(out);
        int ended = javap.run(to, to, "-p", "-c", "-cp", System.getProperty("java.class.path"), name);
        DUE.is("javap of " + name, ended, 0);
        return out.toString().split("\\R");
    }

    private void library() {
        for (Map.Entry<String, Set<String>> method : calls.entrySet()) {
            for (String called : method.getValue()) {
                DUE.holds(method.getKey() + " may call " + called, calls.containsKey(called) || LIBRARY.contains(called));
            }
        }
    }

    /** Rule 11: a method that is open already is a recursion and counts no further. */
    private void depth() {
        for (String method : calls.keySet()) {
            if (method.startsWith("AirZone.")) {
                List<String> chain = deepest(method, new ArrayDeque<>());
                DUE.holds("calls go " + DEEPEST + " deep at most: " + chain, chain.size() <= DEEPEST);
            }
        }
    }

    private List<String> deepest(String method, ArrayDeque<String> open) {
        List<String> best = List.of();
        open.push(method);
        for (String called : calls.get(method)) {
            if (calls.containsKey(called) && !open.contains(called)) {
                List<String> chain = deepest(called, open);
                best = chain.size() > best.size() ? chain : best;
            }
        }
        open.pop();
        List<String> all = new ArrayList<>(List.of(method));
        all.addAll(best);
        return all;
    }

    /** What a run of calls makes is what its objects are made with. */
    private void makers() {
        for (String method : makers) {
            DUE.holds(method + " is a constructor", method.endsWith(".<init>") || method.endsWith(".<clinit>"));
        }
    }

    private static void room() throws ReflectiveOperationException {
        Set<Object> seen = Collections.newSetFromMap(new IdentityHashMap<>());
        ArrayDeque<Object> open = new ArrayDeque<>(List.of(new AirZone()));
        long cells = 0;
        while (!open.isEmpty()) {
            Object one = open.pop();
            if (!seen.add(one)) {
                continue;
            }
            cells += one.getClass().isArray() ? Array.getLength(one) : 0;
            if (one instanceof Object[] row) {
                open.addAll(Arrays.asList(row));
            }
            for (Field f : one.getClass().getDeclaredFields()) {
                if (Modifier.isStatic(f.getModifiers())) {
                    continue;
                }
                cells++;
                f.setAccessible(true);
                if (!f.getType().isPrimitive() && f.get(one) != null) {
                    open.push(f.get(one));
                }
            }
        }
        DUE.holds("some hundred objects and arrays, not " + seen.size(), seen.size() <= 200);
        DUE.holds("some 12,000 fields and elements, not " + cells, cells <= 20000);
    }
}
