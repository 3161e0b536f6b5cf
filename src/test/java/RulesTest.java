import java.io.IOException;
import java.lang.reflect.Constructor;
import java.lang.reflect.Field;
import java.lang.reflect.Method;
import java.lang.reflect.Modifier;
import java.nio.file.Files;
import java.nio.file.Path;
import java.util.Arrays;
import java.util.Set;
import java.util.TreeSet;
import java.util.regex.Matcher;
import java.util.regex.Pattern;

/** The public face, and those rules of LANGUAGE.md that the source shows by itself. */
public final class RulesTest {
    private static final Due DUE = new Due("RulesTest");
    private static final String SOURCE = "src/main/java/AirZone.java";
    private static final String FACE = """
        int feed(int,int,int,int,int)
        int end(int)
        int map()
        int orders(int)
        int fault(int)
        int between(int,int)
        int plate(long,int)
        int papers(int,int,int,int,int,int)
        int read(int,int,int,long)
        int appeal(int,int)
        boolean untell(int)
        int later(int)
        int like(int,int)
        int whose(int,int)
        int doubt(int,int)
        int isDouble(int,int,int)
        int inside(int,int,boolean,int)
        int classOf(int,int,int)
        int entries(int,int,int)
        int charge(int,int,int)
        int account(int,int,int,int)
        int back(int,int,int,int,int)
        int air(int,int,int,int)
        int effect(int)
        int doubtOf(int,int)
        int trip(int,int,int,int,int)
        int minutes(int,int,boolean)
        int via(int,int,boolean,int)
        int load(int,int,boolean)
        int around(int)
        int view(int,int)
        int seen(int,int)
        int about(int)
        """;

    public static void main(String[] args) throws IOException {
        face();
        classesInside();
        source();
        DUE.end();
    }

    private static void face() {
        Set<String> want = new TreeSet<>(Arrays.asList(FACE.strip().split("\\s*\n\\s*")));
        Set<String> got = new TreeSet<>();
        Set<String> names = new TreeSet<>();
        for (Method m : AirZone.class.getDeclaredMethods()) {
            if (Modifier.isPublic(m.getModifiers())) {
                String types = String.join(",", Arrays.stream(m.getParameterTypes()).map(Class::getName).toList());
                got.add(m.getReturnType().getName() + " " + m.getName() + "(" + types + ")");
                names.add(m.getName());
            }
        }
        DUE.holds("the methods are " + want + ", not " + got, want.equals(got));
        for (Method m : AirZone.class.getDeclaredMethods()) {
            boolean isHidden = Modifier.isPrivate(m.getModifiers()) && !names.contains(m.getName());
            DUE.holds(m + " is private", Modifier.isPublic(m.getModifiers()) || isHidden);
        }
        for (Field f : AirZone.class.getDeclaredFields()) {
            DUE.holds(f + " is private", Modifier.isPrivate(f.getModifiers()) || f.getName().equals("NONE"));
        }
        Constructor<?>[] made = AirZone.class.getDeclaredConstructors();
        DUE.is("one constructor", made.length, 1);
        DUE.is("without parameters", made[0].getParameterCount(), 0);
        DUE.holds("the class is public and final", AirZone.class.getModifiers() == (Modifier.PUBLIC | Modifier.FINAL));
    }

    private static void classesInside() {
        Class<?>[] inside = AirZone.class.getDeclaredClasses();
        DUE.holds("some twelve classes at most", inside.length + 1 <= 12);
        for (Class<?> c : inside) {
            DUE.holds(c + " is static", Modifier.isStatic(c.getModifiers()));
            int fields = 0;
            for (Field f : c.getDeclaredFields()) {
                boolean isConstant = Modifier.isStatic(f.getModifiers());
                fields += isConstant ? 0 : 1;
                DUE.holds(f + " is final if static", !isConstant || Modifier.isFinal(f.getModifiers()));
            }
            DUE.holds(c + " has some twenty fields at most", fields <= 20);
            for (Method m : c.getDeclaredMethods()) {
                DUE.holds(m + " takes seven parameters at most", m.getParameterCount() <= 7);
            }
        }
    }

    private static void source() throws IOException {
        String source = Files.readString(Path.of(SOURCE));
        String code = source.replaceAll("(?s)/\\*.*?\\*/", "").replaceAll("//[^\n]*", "").replaceAll("\"[^\"\n]*\"", "\"\"")
                .replaceAll("'.'", "' '");
        String[] never = {"\\bthrow\\b", "\\btry\\b", "\\bcatch\\b", "\\bsynchronized\\b", "\\bassert\\b", "->", "::",
            "\\bpackage\\b", "\\bSystem\\.(?!arraycopy)", "\\w+Exact\\b", "\\bprotected\\b", "\\bstatic \\{", "\\bvar\\b",
            "\\bObject\\b", "\\bMAX_VALUE\\b", "\\bMIN_VALUE\\b", "\\bdouble\\b", "\\bfloat\\b", "@"};
        for (String word : never) {
            DUE.holds("no " + word, !Pattern.compile(word).matcher(code).find());
        }
        Matcher imports = Pattern.compile("import ([\\w.*]+);").matcher(code);
        while (imports.find()) {
            DUE.holds(imports.group(1) + " may be used", Set.of("java.util.Arrays").contains(imports.group(1)));
        }
        for (char sign : source.toCharArray()) {
            DUE.holds("signs are plain", sign == 10 || sign >= 32 && sign < 127);
        }
        methodLengths(source);
    }

    private static void methodLengths(String source) {
        String[] lines = source.split("\n");
        int start = 0;
        for (int n = 0; n < lines.length; n++) {
            if (lines[n].matches(" {4,8}\\S.*\\) \\{")) {
                start = n;
            }
            if (lines[n].matches(" {4,8}\\}")) {
                DUE.holds("the method at line " + (start + 1) + " is short", lines[start].contains("class ") || start == 0
                        || n - start <= 60 || lines[n].length() == 5);
            }
        }
    }
}
