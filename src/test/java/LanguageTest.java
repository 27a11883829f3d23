import java.io.IOException;
import java.lang.reflect.Field;
import java.lang.reflect.Member;
import java.lang.reflect.Method;
import java.lang.reflect.Modifier;
import java.nio.file.Files;
import java.nio.file.Path;
import java.util.ArrayList;
import java.util.HashSet;
import java.util.List;
import java.util.Map;
import java.util.Set;
import java.util.TreeMap;
import java.util.TreeSet;
import java.util.regex.Matcher;
import java.util.regex.Pattern;

/** What of LANGUAGE.md can be told from the source and by reflection. */
public final class LanguageTest {
    private static final String FACE = "feed6 work3 splice5 cut3 drop1 alter3 raw2 letter3 taken2 rule2 mark2 print3 "
        + "common2 match4 chain3 like3 span3 source2 share2 group1 without2 drawn4 chance5 tells3 film2 image0 back0 "
        + "count1 sheet3 put3 copy5";
    private static final String WORDS = "throw throws try catch finally synchronized assert instanceof lambda float "
        + "double protected package transient volatile native strictfp System.out System.in System.exit Math.random "
        + "equals hashCode toString Object Exception Error";
    private static final Pattern METHOD =
        Pattern.compile("\\n {4,8}((?:public |private |static )*)([\\w\\[\\]]+ )?(\\w+)\\(([^)]*)\\) \\{\\n");

    private static int wrong = 0;

    private static void must(String told, boolean holds) {
        if (!holds) {
            wrong++;
            System.out.println("doesn't hold: " + told);
        }
    }

    private static String bare(String source) {
        String code = source.replaceAll("(?s)/\\*.*?\\*/", "").replaceAll("//[^\\n]*", "");
        return code.replaceAll("'(\\\\.|[^'\\\\])'", "0").replaceAll("\"(\\\\.|[^\"\\\\])*\"", "0");
    }

    private static void face() throws NoSuchFieldException, IllegalAccessException {
        Class<?> c = HandedWorks.class;
        must("public final class", Modifier.isPublic(c.getModifiers()) && Modifier.isFinal(c.getModifiers()));
        must("one public constructor", c.getDeclaredConstructors().length == 1 && c.getConstructors().length == 1);
        Set<String> open = new TreeSet<>();
        Set<String> closed = new HashSet<>();
        for (Method m : c.getDeclaredMethods()) {
            if (Modifier.isPrivate(m.getModifiers())) {
                closed.add(m.getName());
            } else if (!m.isSynthetic()) {
                open.add(m.getName() + m.getParameterCount());
                must("public, not static: " + m, Modifier.isPublic(m.getModifiers()) && !Modifier.isStatic(m.getModifiers()));
                must("answers: " + m, m.getReturnType() == (m.getName().equals("mark") ? long.class : int.class));
                for (Class<?> p : m.getParameterTypes()) {
                    must("takes ints: " + m, p == int.class);
                }
            }
        }
        must("the face " + open, open.equals(new TreeSet<>(List.of(FACE.split(" ")))));
        for (Class<?> inside : c.getDeclaredClasses()) {
            must("static, hidden: " + inside, Modifier.isStatic(inside.getModifiers()) && !Modifier.isPublic(inside.getModifiers()));
            for (Method m : inside.getDeclaredMethods()) {
                closed.add(m.getName());
            }
            fields(inside);
        }
        for (String name : FACE.replaceAll("\\d", "").split(" ")) {
            must("no hidden method is named " + name, !closed.contains(name));
        }
        must("some twelve classes", c.getDeclaredClasses().length + 1 <= 12);
        fields(c);
        constants(c);
    }

    private static void constants(Class<?> c) throws NoSuchFieldException, IllegalAccessException {
        Map<String, Long> due = Map.of("NONE", -1L, "BAD", -2L, "STATE", -3L, "FULL", -4L, "NO", -4611686018427387904L);
        for (Map.Entry<String, Long> e : due.entrySet()) {
            Field f = c.getField(e.getKey());
            must("constant " + f, f.getLong(null) == e.getValue() && Modifier.isFinal(f.getModifiers()));
        }
        must("no other public field", c.getFields().length == due.size());
    }

    private static void fields(Class<?> c) {
        int own = 0;
        for (Field f : c.getDeclaredFields()) {
            boolean still = Modifier.isStatic(f.getModifiers());
            own += still ? 0 : 1;
            must("static fields are final: " + f, !still || Modifier.isFinal(f.getModifiers()));
            must("hidden: " + f, c != HandedWorks.class || Modifier.isPrivate(f.getModifiers()) || still && isOpen(f));
        }
        must("some twenty fields: " + c, own <= 20);
    }

    private static boolean isOpen(Member m) {
        return Modifier.isPublic(m.getModifiers());
    }

    private static void words(String source, String code) {
        for (String word : WORDS.split(" ")) {
            must("no word " + word, !Pattern.compile("\\b" + Pattern.quote(word) + "\\b").matcher(code).find());
        }
        must("no lambda, no method reference", !code.contains("->") && !code.contains("::"));
        must("nothing Exact", !code.contains("Exact("));
        must("no package", !code.startsWith("package"));
        must("signs 1 to 127", source.chars().allMatch(ch -> ch >= 1 && ch <= 127));
        Matcher imports = Pattern.compile("import ([^;]+);").matcher(code);
        while (imports.find()) {
            must("import " + imports.group(1), Set.of("java.util.Arrays", "java.util.ArrayList", "java.util.List").contains(imports.group(1)));
        }
        Matcher library = Pattern.compile("\\b(Arrays|Math|System)\\.(\\w+)").matcher(code);
        while (library.find()) {
            must("library " + library.group(), Set.of("fill", "arraycopy", "min", "max").contains(library.group(2)));
        }
        must("fill is over numbers", !Pattern.compile("Arrays\\.fill\\([^;]*(true|false)\\)").matcher(code).find());
        must("no text is joined", !source.contains("\""));
        must("yes and no are joined by && and || alone", !Pattern.compile("[|&^]=[^;]*([=!<>]=|&&|\\|\\||\\b(true|false)\\b)").matcher(code).find());
        must("no static block", !Pattern.compile("\\bstatic\\s*\\{").matcher(code).find());
        must("no loop without an end", !Pattern.compile("for \\([^;]*;\\s*;|while \\(true").matcher(code).find());
    }

    /** Where two methods of one name stand, they are taken as one: the depth told is no less than the true one. */
    private static void methods(String code) {
        Map<String, Set<String>> calls = new TreeMap<>();
        Matcher m = METHOD.matcher(code);
        Map<String, String> bodies = new TreeMap<>();
        while (m.find()) {
            int end = m.end();
            for (int open = 1; open > 0; end++) {
                open += code.charAt(end) == '{' ? 1 : code.charAt(end) == '}' ? -1 : 0;
            }
            String body = code.substring(m.end(), end);
            must("short: " + m.group(3), body.split("\n").length <= 60);
            must("seven parameters: " + m.group(3), m.group(4).split(",").length <= 7);
            must("makes no object: " + m.group(3), m.group(3).equals("HandedWorks") || !Pattern.compile("\\bnew\\b").matcher(body).find());
            bodies.merge(m.group(3), body, String::concat);
        }
        for (String name : bodies.keySet()) {
            Set<String> called = new TreeSet<>();
            Matcher c = Pattern.compile("(?<!Arrays\\.|Math\\.|System\\.|new )\\b(\\w+)\\(").matcher(bodies.get(name));
            while (c.find()) {
                if (bodies.containsKey(c.group(1))) {
                    called.add(c.group(1));
                }
            }
            calls.put(name, called);
        }
        must("methods were found", calls.size() > 100);
        int deepest = 0;
        for (String name : calls.keySet()) {
            deepest = Math.max(deepest, depth(calls, name, new ArrayList<>()));
        }
        System.out.println(calls.size() + " names of methods, calls " + deepest + " deep at most");
        must("calls go eight deep at most", deepest <= 8);
    }

    private static int depth(Map<String, Set<String>> calls, String name, List<String> above) {
        if (above.contains(name)) {
            must("no recursion: " + above + " " + name, false);
            return 0;
        }
        above.add(name);
        int deepest = 0;
        for (String next : calls.get(name)) {
            deepest = Math.max(deepest, depth(calls, next, above));
        }
        above.remove(name);
        return deepest + 1;
    }

    public static void main(String[] args) throws IOException, NoSuchFieldException, IllegalAccessException {
        String source = Files.readString(Path.of(args.length > 0 ? args[0] : "src/main/java/HandedWorks.java"));
        face();
        words(source, bare(source));
        methods(bare(source));
        System.out.println(wrong == 0 ? "the rules hold" : wrong + " rules don't hold");
        if (wrong != 0) {
            System.exit(1);
        }
    }
}
