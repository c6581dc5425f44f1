import java.lang.reflect.Field;
import java.lang.reflect.Member;
import java.lang.reflect.Method;
import java.lang.reflect.Modifier;
import java.nio.file.Files;
import java.nio.file.Path;
import java.util.ArrayList;
import java.util.Arrays;
import java.util.List;
import java.util.Set;
import java.util.TreeSet;
import java.util.regex.Matcher;
import java.util.regex.Pattern;

/** The face of the document, and those rules of LANGUAGE.md that can be seen in the source. */
public final class LanguageTest {
    private static final Check c = new Check("LanguageTest");
    private static final String FACE = "row(int,int)int lay(int,int,int)int at(int,int)int tear(int)int "
        + "copy(int,int,int,int,int)int mean(int)int text(int,int)int put(int,int,int)int fault(int)int "
        + "land(int)int road(int,int)int mark(int,int)int wheels(int)int from(int)int begin(int)int go(int)int "
        + "here()int felt(int)int undo(int)int tell(int)int keep(int)int on(int)int feels(int,int,int)int "
        + "drives(int,int)int ends(int,int)int first(int,int,int)int where(int)int slips(int,int)int next(int)int "
        + "apart(int,int)int unlike()int look(int)int marks(int)int way(int,int)int rounds(int,int)int tour(int)int "
        + "pave(int)int loss(int)int best()int lots(int,int)int asked()int upper()long lower()long count(int)int "
        + "finding()int findings(int)int digest()long";
    private static final String[] BANNED_WORDS = {"throw", "throws", "try", "catch", "finally", "synchronized",
        "assert", "protected", "volatile", "transient", "native", "var", "Object", "Iterable", "Random", "System.out",
        "hashCode", "toString", "Thread", "Exact"};

    public static void main(String[] args) throws Exception {
        face();
        nested();
        Path file = Path.of(System.getProperty("project.root", "."), "src/main/java/BumpMap.java");
        String source = Files.readString(file);
        String code = withoutComments(source);
        words(code);
        methods(code);
        library(code);
        for (int i = 0; i < source.length(); i++) {
            if (source.charAt(i) > 126) c.holds("plain signs at " + i, false);
        }
        c.end();
    }

    private static void face() {
        c.holds("final and public", BumpMap.class.getModifiers() == (Modifier.PUBLIC | Modifier.FINAL));
        c.due("constructors", BumpMap.class.getDeclaredConstructors().length, 1);
        Set<String> want = new TreeSet<>(Arrays.asList(FACE.split(" ")));
        Set<String> got = new TreeSet<>();
        Set<String> hidden = new TreeSet<>();
        for (Method m : BumpMap.class.getDeclaredMethods()) {
            if (Modifier.isPrivate(m.getModifiers())) {
                hidden.add(m.getName());
                continue;
            }
            c.holds(m + " is public, not static", m.getModifiers() == Modifier.PUBLIC);
            StringBuilder b = new StringBuilder(m.getName()).append('(');
            for (Class<?> p : m.getParameterTypes()) b.append(b.charAt(b.length() - 1) == '(' ? "" : ",").append(p);
            got.add(b.append(')').append(m.getReturnType()).toString());
        }
        c.holds("the face: " + got, got.equals(want));
        for (String s : want) {
            c.holds("no private method has the name of " + s, !hidden.contains(s.substring(0, s.indexOf('('))));
        }
        Set<String> constants = new TreeSet<>();
        for (Field f : BumpMap.class.getDeclaredFields()) {
            if (!Modifier.isPrivate(f.getModifiers())) constants.add(f.getName());
        }
        c.holds("constants: " + constants,
            constants.equals(new TreeSet<>(List.of("BAD", "FULL", "FINDING", "STATE", "SPENT", "NONE"))));
    }

    private static void nested() {
        List<Class<?>> all = new ArrayList<>(List.of(BumpMap.class));
        all.addAll(Arrays.asList(BumpMap.class.getDeclaredClasses()));
        c.holds("some twelve classes", all.size() <= 13);
        Set<String> names = new TreeSet<>();
        for (Method m : BumpMap.class.getMethods()) names.add(m.getName());
        for (Class<?> k : all) {
            if (k != BumpMap.class) c.holds(k + " is static", Modifier.isStatic(k.getModifiers()));
            c.due(k + ": classes inside", k == BumpMap.class ? 0 : k.getDeclaredClasses().length, 0);
            int fields = 0;
            for (Field f : k.getDeclaredFields()) {
                c.holds(f + " is final or of an object", !Modifier.isStatic(f.getModifiers())
                    || Modifier.isFinal(f.getModifiers()));
                if (!Modifier.isStatic(f.getModifiers())) fields++;
            }
            c.holds(k + ": some twenty fields", fields <= 20);
            if (k != BumpMap.class) {
                for (Member m : k.getDeclaredMethods()) {
                    c.holds(m + " has a name of its own", !names.contains(m.getName()));
                }
            }
        }
    }

    private static String withoutComments(String s) {
        return Pattern.compile("(?s)/\\*.*?\\*/").matcher(s).replaceAll("")
            .replaceAll("//[^\n]*", "");
    }

    private static void words(String code) {
        for (String word : BANNED_WORDS) {
            c.holds("no " + word, !Pattern.compile("\\b" + Pattern.quote(word) + "\\b").matcher(code).find());
        }
        c.holds("no lambda", !code.contains("->"));
        c.holds("no method reference", !code.contains("::"));
        c.holds("no package line", !code.contains("package "));
        c.holds("no name ends in Exact", !code.contains("Exact("));
        c.holds("no loop without an end", !Pattern.compile("while \\(true|for \\(;;|for \\([^;]*;\\s*;").matcher(code).find());
        c.holds("no static block", !Pattern.compile("static\\s*\\{").matcher(code).find());
        c.holds("no annotation", !code.contains("@"));
    }

    /** Methods of some sixty lines, with seven parameters at most. */
    private static void methods(String code) {
        Matcher m = Pattern.compile("(?m)^( {4}| {8})\\S[^;=\\n]*\\(([^)]*)\\) \\{$").matcher(code);
        int found = 0;
        while (m.find()) {
            found++;
            int end = code.indexOf("\n" + m.group(1) + "}\n", m.end());
            long lines = code.substring(m.start(), end).lines().count() + 1;
            c.holds(m.group().trim() + " has " + lines + " lines", lines <= 60);
            c.holds(m.group().trim() + ": parameters", m.group(2).split(",").length <= 7);
        }
        c.holds("methods found: " + found, found > 100);
    }

    /** Only the library's classes and functions that the rules list. */
    private static void library(String code) {
        Set<String> want = Set.of("Integer.bitCount", "Math.max", "Math.min", "Arrays.fill", "System.arraycopy");
        Matcher m = Pattern.compile("\\b(Integer|Long|Math|Arrays|System|String|Character|List)\\.\\w+").matcher(code);
        while (m.find()) c.holds("library: " + m.group(), want.contains(m.group()));
        Matcher imports = Pattern.compile("import ([^;]+);").matcher(code);
        while (imports.find()) c.holds("import " + imports.group(1), imports.group(1).equals("java.util.Arrays"));
    }
}
