import java.io.IOException;
import java.lang.reflect.Constructor;
import java.lang.reflect.Field;
import java.lang.reflect.Method;
import java.lang.reflect.Modifier;
import java.nio.file.Files;
import java.nio.file.Path;
import java.util.Arrays;
import java.util.Set;
import java.util.TreeSet;
import java.util.regex.Matcher;
import java.util.regex.Pattern;

/** The face of the class, and the rules of LANGUAGE.md that can be seen in its text or its classes. */
public final class LanguageTest {
    private static final Check C = new Check();
    private static final String[] FACE = {
        "int wall(int,int,int,int)", "int about(int,int)", "int hole(int,int,int,int,int)",
        "boolean leave(int,int,int,boolean)", "boolean sold(int,int)", "boolean beside(int,int,boolean)",
        "boolean minutes(int,int,int)", "int feed(int,int,int,int,int)", "int drawing(int)", "int bar(int)",
        "int right(int)", "int fault()", "int where()", "int sketch(int,int)", "int sketched(int,int)",
        "int sketchOf(int)", "int unlike(int)", "int painter(int,int)", "boolean wish(int,int,int)",
        "boolean vote(int,int,int,int)", "int liked(int,int)", "int give(int)", "int given(int)",
        "int work(int,int,int)", "int workOf(int,int)", "boolean weather(int,int,int)", "boolean lifts(int)",
        "int end(int)", "int ready(int)", "int tin(int,int)", "int left(int)", "int pass(int)",
        "int cell(int,int,int)", "int looks(int,int)", "int pale(int)", "int tag(int,int)", "boolean clean(int)",
        "int late()", "int round(int)", "boolean themes(int,int)", "int trail(int)", "int trailOf()",
        "int gets(int,int,int)", "int led(int,int,int,int)", "int shows(int)", "int count(int)", "int trouble()"};

    public static void main(String[] args) throws IOException {
        face();
        classes();
        String text = Files.readString(Path.of("src/main/java/WallHouse.java"));
        text(text);
        headings(text, Files.readString(Path.of("../shared/DOC.md")));
        C.end();
    }

    /** The calls stand in the document's order, each group behind the heading that it names. */
    private static void headings(String text, String doc) {
        C.part("the headings");
        Matcher groups = Pattern.compile("Ahead of the calls (`[^\n]+`) the interface says: (---- [^\n]+)\\.").matcher(doc);
        int found = 0;
        while (groups.find()) {
            found++;
            int from = text.indexOf("    // " + groups.group(2) + "\n");
            C.yes(groups.group(2) + " stands there", from >= 0);
            int to = text.indexOf("    // ----", from + 1);
            StringBuilder names = new StringBuilder();
            Matcher calls = Pattern.compile("(?m)^    public (?:int|boolean) (\\w+)\\(")
                    .matcher(text.substring(Math.max(0, from), to < 0 ? text.length() : to));
            while (calls.find()) {
                names.append(names.length() == 0 ? "`" : ", `").append(calls.group(1)).append('`');
            }
            C.yes("behind " + groups.group(2) + ": " + names, names.toString().equals(groups.group(1)));
        }
        C.due("headings", found, 6);
    }

    private static void face() {
        C.part("the face");
        Set<String> has = new TreeSet<>();
        for (Method m : WallHouse.class.getDeclaredMethods()) {
            if (Modifier.isPublic(m.getModifiers())) {
                String types = Arrays.toString(m.getParameterTypes()).replaceAll("[\\[\\] ]", "");
                has.add(m.getReturnType() + " " + m.getName() + "(" + types + ")");
            } else {
                C.yes(m.getName() + " is private", Modifier.isPrivate(m.getModifiers()));
            }
        }
        C.yes("the public methods " + has, has.equals(new TreeSet<>(Arrays.asList(FACE))));
        for (Field f : WallHouse.class.getDeclaredFields()) {
            C.yes(f.getName(), f.getName().equals("NONE") || Modifier.isPrivate(f.getModifiers()));
        }
        for (Constructor<?> c : WallHouse.class.getDeclaredConstructors()) {
            C.due("parameters of the constructor", c.getParameterCount(), 0);
        }
        C.yes("final", Modifier.isFinal(WallHouse.class.getModifiers()));
        C.due("NONE", WallHouse.NONE, -1);
    }

    private static void classes() {
        C.part("the classes");
        Set<String> open = new TreeSet<>();
        for (Method m : WallHouse.class.getMethods()) {
            open.add(m.getName());
        }
        C.yes("at most twelve", WallHouse.class.getDeclaredClasses().length <= 11);
        for (Class<?> inner : WallHouse.class.getDeclaredClasses()) {
            C.yes(inner + " is static", Modifier.isStatic(inner.getModifiers()));
            C.no(inner + " is public", Modifier.isPublic(inner.getModifiers()));
            C.yes("fields of " + inner, fields(inner) <= 20);
            for (Method m : inner.getDeclaredMethods()) {
                C.no(inner + "." + m.getName() + " has a public name", open.contains(m.getName()));
                C.yes(inner + "." + m.getName() + " takes seven at most", m.getParameterCount() <= 7);
            }
        }
        C.yes("fields of WallHouse", fields(WallHouse.class) <= 20);
    }

    private static int fields(Class<?> c) {
        int n = 0;
        for (Field f : c.getDeclaredFields()) {
            boolean fixed = Modifier.isStatic(f.getModifiers());
            n += fixed ? 0 : 1;
            C.yes(c + "." + f.getName() + " static and not final", !fixed || Modifier.isFinal(f.getModifiers()));
        }
        return n;
    }

    private static void text(String text) {
        C.part("the text");
        String bare = text.replaceAll("(?s)/\\*.*?\\*/", "").replaceAll("//[^\n]*", "");
        String[] never = {"\\bthrow\\b", "\\btry\\b", "\\bcatch\\b", "\\bsynchronized\\b", "\\bassert\\b", "->", "::",
            "\\bvar\\b", "\\bpackage\\b", "\\w+Exact\\b", "\\bInteger\\.M", "\\bLong\\.M", "\" *\\+", "\\+ *\"",
            "\\.equals\\(", "\\bhashCode\\b", "\\btoString\\b", "\\bRandom\\b", "\\bSystem\\.(?!arraycopy)",
            "\\bThread\\b", "\\bstatic \\{", "\\bString\\.", "\\bObject\\b", "\\bint\\[\\]\\[\\]\\["};
        for (String rule : never) {
            Matcher m = Pattern.compile(rule).matcher(bare);
            C.no("has " + rule, m.find());
        }
        Matcher imports = Pattern.compile("import ([^;]+);").matcher(bare);
        while (imports.find()) {
            C.yes("import " + imports.group(1), imports.group(1).equals("java.util.Arrays"));
        }
        Matcher calls = Pattern.compile("\\b(Arrays|Math|Integer|Long)\\.(\\w+)").matcher(bare);
        Set<String> known = Set.of("Arrays.fill", "Arrays.copyOf", "Math.max", "Math.min", "Math.abs",
            "Integer.bitCount", "Integer.compare");
        while (calls.find()) {
            C.yes(calls.group(), known.contains(calls.group()));
        }
        for (char c : text.toCharArray()) {
            C.yes("sign " + (int) c, c == 10 || c >= 32 && c < 127);
        }
        methodsStayShort(bare);
    }

    /** A method begins at a line of its class's depth that ends with { and goes on to the } of that depth. */
    private static void methodsStayShort(String bare) {
        int begun = -1;
        String name = "";
        String[] lines = bare.split("\n");
        for (int i = 0; i < lines.length; i++) {
            if (lines[i].matches("( {4}| {8})[a-zA-Z].*\\) \\{")) {
                begun = i;
                name = lines[i].trim();
            }
            if (begun >= 0 && lines[i].matches("( {4}| {8})\\}")) {
                C.yes(name + " is short", i - begun <= 60);
                begun = -1;
            }
        }
    }
}
