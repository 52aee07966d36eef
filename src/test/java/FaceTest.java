import java.io.IOException;
import java.lang.reflect.Method;
import java.lang.reflect.Modifier;
import java.nio.charset.StandardCharsets;
import java.nio.file.Files;
import java.nio.file.Path;
import java.util.Set;
import java.util.TreeSet;
import java.util.regex.Matcher;
import java.util.regex.Pattern;

/** The face of the class, and those of the language's rules that can be seen in the file. */
public final class FaceTest {
    private static final String FACE = "word(int,int) ofWord(int,int) known(int) swallow(int,int,int) "
        + "ofSwallow(int) wash(int,int) ofWash(int) spoon(int,int) ofSpoon(int,int) change(int,int,int) "
        + "become(int,int) as(int,int) feed(long,int) text(int) law(int,int,int,int) hours(int) loose(int) "
        + "then(int,int,int) spreads(int) when(int) lasts(int) silverFor(int,int) washFor(int,int) "
        + "kindFor(int,int) rubbed(int,int,int) which(int,int) washers() telling(int) gossip(int) much(int) "
        + "odds(int,int,int) seed(int) voice(int,int,int) trace(int) sheet(int,int,int) put(int,int,int) "
        + "move(int,int,int,int,int) weights(int) judge(int) image() restore() tell(int) check() count(int) "
        + "told(int)";

    private FaceTest() {
    }

    public static void main(String[] args) throws IOException {
        face();
        members();
        source(args.length > 0 ? args[0] : "src/main/java/SpoonsLast.java");
        Due.end();
    }

    private static String signature(Method m) {
        StringBuilder b = new StringBuilder(m.getName()).append('(');
        for (Class<?> c : m.getParameterTypes()) {
            b.append(b.charAt(b.length() - 1) == '(' ? "" : ",").append(c.getName());
        }
        return b.append(')').toString();
    }

    private static void face() {
        Due.topic("the face");
        Set<String> there = new TreeSet<>();
        for (Method m : SpoonsLast.class.getDeclaredMethods()) {
            if (Modifier.isPublic(m.getModifiers())) {
                there.add(signature(m));
                Due.due(m.getName() + " answers an int", m.getReturnType() == int.class ? 1 : 0, 1);
                Due.due(m.getName() + " is of an object", Modifier.isStatic(m.getModifiers()) ? 1 : 0, 0);
            }
        }
        Set<String> due = new TreeSet<>(Set.of(FACE.split(" ")));
        Set<String> lacks = new TreeSet<>(due);
        lacks.removeAll(there);
        Set<String> more = new TreeSet<>(there);
        more.removeAll(due);
        Due.due("methods that lack: " + lacks, lacks.size(), 0);
        Due.due("methods too many: " + more, more.size(), 0);
        Due.due("45 methods", due.size(), 45);
        int mods = SpoonsLast.class.getModifiers();
        Due.due("public and final", Modifier.isPublic(mods) && Modifier.isFinal(mods) ? 1 : 0, 1);
        Due.due("one constructor", SpoonsLast.class.getConstructors().length, 1);
        Due.due("without arguments", SpoonsLast.class.getConstructors()[0].getParameterCount(), 0);
        Due.due("no package", SpoonsLast.class.getPackageName().length(), 0);
    }

    private static void members() {
        Due.topic("rule 1");
        Set<String> names = new TreeSet<>();
        for (String s : FACE.split(" ")) {
            names.add(s.substring(0, s.indexOf('(')));
        }
        for (Method m : SpoonsLast.class.getDeclaredMethods()) {
            boolean open = Modifier.isPublic(m.getModifiers());
            Due.due(m.getName() + " is public or private", open || Modifier.isPrivate(m.getModifiers()) ? 1 : 0, 1);
            Due.due(m.getName() + " has a name of its own", open || !names.contains(m.getName()) ? 1 : 0, 1);
            Due.due(m.getName() + " takes at most 7", m.getParameterCount() <= 7 ? 1 : 0, 1);
        }
        for (var f : SpoonsLast.class.getDeclaredFields()) {
            Due.due(f.getName() + " is private", Modifier.isPrivate(f.getModifiers()) ? 1 : 0, 1);
            int mods = f.getModifiers();
            boolean kept = !Modifier.isStatic(mods) || Modifier.isFinal(mods);
            Due.due(f.getName() + " is final, if static", kept ? 1 : 0, 1);
        }
        Class<?>[] inside = SpoonsLast.class.getDeclaredClasses();
        Due.due("some twelve classes", inside.length <= 12 ? 1 : 0, 1);
        for (Class<?> c : inside) {
            Due.due(c.getName() + " is static", Modifier.isStatic(c.getModifiers()) ? 1 : 0, 1);
            boolean hidden = !Modifier.isPublic(c.getModifiers()) && !Modifier.isProtected(c.getModifiers());
            Due.due(c.getName() + " is not public", hidden ? 1 : 0, 1);
            Due.due(c.getName() + " has no class inside", c.getDeclaredClasses().length, 0);
            for (Method m : c.getDeclaredMethods()) {
                boolean open = !Modifier.isPrivate(m.getModifiers());
                Due.due(m.getName() + " in " + c.getName(), open || !names.contains(m.getName()) ? 1 : 0, 1);
            }
            for (var f : c.getDeclaredFields()) {
                int mods = f.getModifiers();
                boolean kept = !Modifier.isStatic(mods) || Modifier.isFinal(mods);
                Due.due(f.getName() + " is final, if static", kept ? 1 : 0, 1);
            }
        }
    }

    /** The file without its comments, strings and characters. */
    private static String bare(String text) {
        return text.replaceAll("(?s)/\\*.*?\\*/", " ").replaceAll("//[^\\n]*", " ")
            .replaceAll("\"(\\\\.|[^\"\\\\])*\"", "\"\"").replaceAll("'(\\\\.|[^'\\\\])'", "' '");
    }

    private static void lacks(String code, String rule, String pattern) {
        Matcher m = Pattern.compile(pattern).matcher(code);
        Due.due(rule + ": " + (m.find() ? m.group() : pattern), m.reset().find() ? 1 : 0, 0);
    }

    private static void source(String file) throws IOException {
        Due.topic("the file");
        String text = Files.readString(Path.of(file), StandardCharsets.UTF_8);
        String code = bare(text);
        Due.due("characters 1 to 127", text.chars().filter(c -> c > 127).count(), 0);
        lacks(code, "one file without a package", "\\bpackage\\b");
        lacks(code, "rule 2", "->|::|\\bnew\\s+\\w+\\s*\\([^()]*\\)\\s*\\{");
        lacks(code, "rule 4", "\\bimport\\s+(?!java\\.util\\.Arrays;)");
        lacks(code, "rule 4", "Exact\\b");
        lacks(code, "rule 4", "\\bSystem\\.(?!arraycopy\\b)");
        lacks(code, "rule 4", "\\bMath\\.(?!max\\b|min\\b|floorMod\\b)");
        lacks(code, "rule 4", "\\bInteger\\.(?!bitCount\\b)");
        lacks(code, "rule 4", "\\bArrays\\.(?!fill\\b|copyOf\\b)");
        lacks(code, "rule 4", "@");
        lacks(code, "rule 5", "\\bstatic\\s*\\{");
        lacks(code, "rule 6", "\\b(throw|throws|try|catch|finally|synchronized|assert|instanceof)\\b");
        lacks(code, "rule 6", "\\b(equals|hashCode|toString|getClass)\\b");
        lacks(code, "rule 10", "\"\\s*\\+|\\+\\s*\"");
        lacks(code, "rule 12", "\\b(Thread|Random|File|Object)\\b");
        loops(code);
        int longest = 0;
        int length = 0;
        for (String line : text.split("\n")) {
            boolean begins = line.matches(" {4,8}[a-z][^;=]*\\) \\{");
            boolean ends = line.matches(" {4,8}\\}");
            length = begins ? 1 : length + 1;
            longest = ends && length < 200 ? Math.max(longest, length) : longest;
        }
        Due.due("methods of some sixty lines", longest > 5 && longest <= 60 ? 1 : 0, 1);
    }

    /**
     * "Every loop has an end that can be seen from its own lines (a counter against a bound, or a chain
     * of objects that has an end)": here each is a for whose own counter goes by one against a bound.
     */
    private static void loops(String code) {
        Due.topic("rule 9");
        lacks(code, "rule 9", "\\b(while|do)\\b");
        Pattern up = Pattern.compile("int (\\w+) = [^;]+; \\1 <=? [^;]+; \\1\\+\\+");
        Pattern down = Pattern.compile("int (\\w+) = [^;]+; \\1 >=? [^;]+; \\1--");
        Matcher loop = Pattern.compile("\\bfor\\s*\\((.*)\\) \\{").matcher(code);
        int counted = 0;
        while (loop.find()) {
            Matcher rising = up.matcher(loop.group(1));
            Matcher falling = down.matcher(loop.group(1));
            boolean rises = rising.matches();
            boolean falls = falling.matches();
            Due.due(loop.group() + " counts against a bound", rises || falls ? 1 : 0, 1);
            if (rises || falls) {
                String counter = rises ? rising.group(1) : falling.group(1);
                boolean told = body(code, loop.end()).matches(
                    "(?s).*(?<![.\\w])" + counter + "\\s*(=[^=]|\\+\\+|--|[-+*/%&|^]=|<<=|>>>?=).*");
                Due.due(loop.group() + " leaves its counter to itself", told ? 1 : 0, 0);
                counted++;
            }
        }
        int all = code.split("\\bfor\\b", -1).length - 1;
        Due.due("loops that count", counted, all);
    }

    /** What stands from a place on, up to the brace that closes what is open there. */
    private static String body(String code, int from) {
        int open = 1;
        int at = from;
        for (; at < code.length() && open > 0; at++) {
            open += code.charAt(at) == '{' ? 1 : code.charAt(at) == '}' ? -1 : 0;
        }
        return code.substring(from, at);
    }
}
