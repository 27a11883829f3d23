import java.io.IOException;
import java.lang.reflect.Method;
import java.nio.file.Files;
import java.nio.file.Path;
import java.util.ArrayList;
import java.util.List;
import java.util.TreeSet;
import java.util.regex.Matcher;
import java.util.regex.Pattern;

/** What README.md tells: its calls answer what stands behind them, its tables are as the document and the class. */
public final class ReadmeTest extends Asking {
    private static final Pattern CALL = Pattern.compile("(?m)^x\\.(\\w+)\\((.*?)\\); +// (-?\\d+)\\b.*$");
    private static final Pattern FACE = Pattern.compile("(?m)^ +public (?:int|long) (\\w+)\\((.*?)\\);$");
    private static final Pattern CALL_ROW = Pattern.compile("(?m)^\\| `(\\w+\\(.*?\\))` \\|");
    private static final Pattern RULE_ROW =
        Pattern.compile("(?m)^\\| (\\d) \\| \\w+: .* \\| (-?\\d+)(?: \\(`NONE`\\))? \\.\\. (\\d+) \\| (-?\\d+) \\|$");
    private static final Pattern REFUSAL_ROW = Pattern.compile("(?m)^\\| (-\\d+)(?: `(\\w+)`)? \\|");

    private ReadmeTest() {
    }

    private static int number(String told) {
        return told.startsWith("'") ? told.charAt(1) : Integer.parseInt(told);
    }

    private static Method named(String name) {
        for (Method m : HandedWorks.class.getMethods()) {
            if (m.getName().equals(name) && m.getDeclaringClass() == HandedWorks.class) {
                return m;
            }
        }
        throw new IllegalStateException("the class has no call " + name);
    }

    /** Commas that part numbers have a blank behind them, and no number is a comma. */
    private static long ask(HandedWorks x, String name, String with) throws ReflectiveOperationException {
        List<Object> numbers = new ArrayList<>();
        for (String told : with.replace("' '", "32").split(", ")) {
            if (!told.isEmpty()) {
                numbers.add(number(told));
            }
        }
        return ((Number) named(name).invoke(x, numbers.toArray())).longValue();
    }

    /** All calls of the example, on one object. */
    private static void example(String readme) throws ReflectiveOperationException {
        int begin = readme.indexOf("```java\n");
        String code = readme.substring(begin, readme.indexOf("```\n", begin + 1));
        HandedWorks x = new HandedWorks();
        int calls = 0;
        for (Matcher m = CALL.matcher(code); m.find(); calls++) {
            due("README: " + m.group(1) + "(" + m.group(2) + ")", ask(x, m.group(1), m.group(2)), Long.parseLong(m.group(3)));
        }
        due("README: calls with an answer", calls, code.lines().filter(line -> line.startsWith("x.")).count());
        due("README: ten calls or more", calls >= 10 ? 1 : 0, 1);
    }

    private static void calls(String readme, String doc) {
        List<String> face = new ArrayList<>();
        for (Matcher m = FACE.matcher(doc); m.find();) {
            face.add(m.group(1) + "(" + m.group(2).replace("int ", "") + ")");
        }
        List<String> told = new ArrayList<>();
        for (Matcher m = CALL_ROW.matcher(readme); m.find();) {
            told.add(m.group(1));
        }
        due("the face: calls", face.size(), 31);
        dueText("README: calls", told.toString(), face.toString());
    }

    private static void rules(String readme) {
        int rules = 0;
        for (Matcher m = RULE_ROW.matcher(readme); m.find(); rules++) {
            HandedWorks x = new HandedWorks();
            int least = Integer.parseInt(m.group(2));
            int most = Integer.parseInt(m.group(3));
            due("README: rule", Integer.parseInt(m.group(1)), rules);
            due("README: below rule " + rules, x.rule(rules, least - 1), HandedWorks.BAD);
            due("README: above rule " + rules, x.rule(rules, most + 1), HandedWorks.BAD);
            due("README: rule " + rules + " at first", x.rule(rules, least), Integer.parseInt(m.group(4)));
            due("README: least rule " + rules, x.rule(rules, most), least);
            due("README: most rule " + rules, x.rule(rules, least), most);
        }
        due("README: rules", rules, 6);
    }

    private static void refusals(String readme) throws ReflectiveOperationException {
        TreeSet<Integer> told = new TreeSet<>();
        for (Matcher m = REFUSAL_ROW.matcher(readme); m.find();) {
            int refusal = Integer.parseInt(m.group(1));
            told.add(refusal);
            if (m.group(2) != null) {
                due("README: " + m.group(2), refusal, HandedWorks.class.getField(m.group(2)).getInt(null));
            }
        }
        dueText("README: refusals", told.toString(), "[-14, -13, -12, -11, -4, -3, -2]");
        due("README: NO", readme.contains("`NO` (" + HandedWorks.NO + ")") ? 1 : 0, 1);
        due("README: NONE", readme.contains("`NONE` (" + HandedWorks.NONE + ")") ? 1 : 0, 1);
    }

    public static void main(String[] args) throws IOException, ReflectiveOperationException {
        String readme = Files.readString(Path.of("README.md"));
        example(readme);
        calls(readme, Files.readString(Path.of("../shared/DOC.md")));
        rules(readme);
        refusals(readme);
        System.out.println(asked + " things that README.md tells, " + wrong + " not so");
        if (wrong != 0) {
            System.exit(1);
        }
    }
}
