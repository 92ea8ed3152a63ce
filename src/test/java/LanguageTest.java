import java.lang.reflect.Method;
import java.lang.reflect.Modifier;
import java.nio.file.Files;
import java.nio.file.Path;
import java.util.ArrayList;
import java.util.List;
import java.util.TreeSet;
import java.util.regex.Matcher;
import java.util.regex.Pattern;

/** The face, and those rules of LANGUAGE.md that can be seen in the file itself; and that calls make no objects. */
public final class LanguageTest {
    private static final Checks checks = new Checks();
    private static final String FACE = "back() bars(int,int) cell(int,int,int) copy(int,int,int,int,int) count(int) cross(int,int) "
        + "feed(int,long) fits(int,int) force(int) foretold(int,int) groups(int) held(int,int,int) holds(int,int) how(int,int) "
        + "image() lay(int,int) look(int,int) needs(int,int,int) night(int) nights(int,int,int,int) odds(int,int,int):long "
        + "order(int) peg(int) run(int,int,int,int) seldom(int,int):long sheet(int,int,int) stone(int,int) stoneTold(int,int) "
        + "taken(int,int) text() together(int,int,int) told(int,int,int,int) track(int,int,int) when(int,int):long";

    public static void main(String[] args) throws Exception {
        face();
        String source = Files.readString(Path.of(args.length > 0 ? args[0] : "src/main/java/WalkingStones.java"));
        words(source);
        sizes(source);
        noObjects();
        checks.end();
    }

    private static void face() {
        checks.at("rule 1");
        TreeSet<String> found = new TreeSet<>();
        TreeSet<String> names = new TreeSet<>();
        for (Method method : WalkingStones.class.getDeclaredMethods()) {
            if (Modifier.isPublic(method.getModifiers())) {
                found.add(signature(method));
                names.add(method.getName());
            }
        }
        checks.due("methods", String.join(" ", found), String.join(" ", new TreeSet<>(List.of(FACE.split(" ")))));
        checks.due("final", Modifier.isFinal(WalkingStones.class.getModifiers()), true);
        for (Method method : WalkingStones.class.getDeclaredMethods()) {
            boolean open = Modifier.isPublic(method.getModifiers());
            checks.due(method.getName() + " private or public", open || Modifier.isPrivate(method.getModifiers()), true);
            checks.due(method.getName() + " is no public name", open || !names.contains(method.getName()), true);
        }
        TreeSet<String> constants = new TreeSet<>();
        for (var field : WalkingStones.class.getDeclaredFields()) {
            if (!Modifier.isPrivate(field.getModifiers())) constants.add(field.getName());
        }
        checks.due("constants", constants.toString(), "[BAD, FULL, NO, NONE, STATE]");
        Class<?>[] inside = WalkingStones.class.getDeclaredClasses();
        checks.due("classes", inside.length <= 11, true);
        for (Class<?> one : inside) {
            checks.due(one + " static", Modifier.isStatic(one.getModifiers()), true);
            int fields = 0;
            for (var field : one.getDeclaredFields()) {
                if (!Modifier.isStatic(field.getModifiers())) fields++;
            }
            checks.due(one + " fields", fields <= 20, true);
            for (Method method : one.getDeclaredMethods()) {
                checks.due(one + " " + method.getName(), names.contains(method.getName()), false);
                checks.due(one + " " + method.getName() + " parameters", method.getParameterCount() <= 7, true);
            }
        }
    }

    private static String signature(Method method) {
        List<String> types = new ArrayList<>();
        for (Class<?> type : method.getParameterTypes()) types.add(type.getName());
        String result = method.getReturnType() == int.class ? "" : ":" + method.getReturnType().getName();
        return method.getName() + "(" + String.join(",", types) + ")" + result;
    }

    private static void words(String source) {
        checks.at("rules 2 to 6");
        String code = source.replaceAll("(?s)/\\*.*?\\*/", "").replaceAll("//[^\n]*", "");
        String[] none = {"throw", "throws", "try", "catch", "finally", "synchronized", "assert", "import", "package", "double", "float",
            "volatile", "native", "protected", "hashCode", "toString", "instanceof", "->", "::", "System\\.(?!arraycopy)", "Thread", "Random"};
        for (String word : none) {
            String pattern = Character.isLetter(word.charAt(0)) ? "\\b" + word + (word.endsWith(")") ? "" : "\\b") : word;
            checks.due("no " + word, Pattern.compile(pattern).matcher(code).find(), false);
        }
        Matcher library = Pattern.compile("\\b(Math|System|Arrays|Integer|Long|String)\\.([a-zA-Z]+)").matcher(code);
        while (library.find()) {
            checks.due(library.group(), library.group().matches("Math\\.(min|max|abs)|System\\.arraycopy"), true);
        }
        for (char c : source.toCharArray()) {
            if (c > 126 || c < 32 && c != '\n') checks.due("a plain sign", (int) c, 32);
        }
    }

    private static void sizes(String source) {
        checks.at("rule 11");
        int from = 0;
        String[] lines = source.split("\n");
        for (int i = 0; i < lines.length; i++) {
            if (lines[i].matches(" {4,8}\\S.*\\) \\{")) from = i;
            if (lines[i].matches(" {4,8}\\}")) checks.due("line " + from + ": a short method", i - from <= 60 || lines[from].contains("class"), true);
        }
    }

    /** One room holds all that a run makes: only the constructor may make objects. */
    private static void noObjects() {
        checks.at("rule 12");
        var threads = (com.sun.management.ThreadMXBean) java.lang.management.ManagementFactory.getThreadMXBean();
        WalkingStones x = new WalkingStones();
        callAll(x);
        long id = Thread.currentThread().getId();
        threads.getThreadAllocatedBytes(id);
        long start = threads.getThreadAllocatedBytes(id);
        for (int k = 0; k < 100; k++) {
            callAll(x);
        }
        long made = threads.getThreadAllocatedBytes(id) - start;
        checks.due("bytes made by calls: " + made, made < 2000, true);
    }

    private static long callAll(WalkingStones x) {
        long all = x.stone(5, 700) + x.night(13500) + x.how(4, 3) + x.track(0, 3, 0) + x.track(0, 4, 0) + x.peg(5);
        all += x.feed(8, 0x3028206464613B30L) + x.text() + x.force(0) + x.cross(0, 1) + x.image() + x.lay(0, 0) + x.back();
        all += x.run(0, 0, 0, 0) + x.together(0, 1, 5) + x.groups(3) + x.fits(0, 0) + x.odds(0, 3, 1) + x.holds(0, 5) + x.bars(0, 5);
        all += x.needs(0, 0, 0) + x.told(0, 0, 0, 2) + x.stoneTold(0, 1) + x.seldom(0, 5) + x.when(0, 0) + x.order(0) + x.look(50, 0);
        all += x.foretold(0, 0) + x.sheet(0, 0, 40) + x.cell(0, 1, 1) + x.copy(0, 0, 0, 1, 3) + x.nights(0, 0, 0, 20) + x.held(0, 0, 0);
        return all + x.taken(0, 1) + x.count(0);
    }
}
