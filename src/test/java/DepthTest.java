import java.io.PrintWriter;
import java.io.StringWriter;
import java.net.URI;
import java.nio.file.Path;
import java.util.ArrayList;
import java.util.HashMap;
import java.util.List;
import java.util.Map;
import java.util.Optional;
import java.util.Set;
import java.util.TreeSet;
import java.util.regex.Matcher;
import java.util.regex.Pattern;
import java.util.spi.ToolProvider;

/** Rules 8 and 11 of LANGUAGE.md: no method comes back to itself, calls go eight deep at most. */
public final class DepthTest {
    private static final int MOST_DEEP = 8;
    private static final Pattern METHOD = Pattern.compile("^  \\S.*?([\\w$]+)\\([^)]*\\);$");
    private static final Pattern CALL =
            Pattern.compile("// (?:Interface)?Method (?:([\\w/$]+)\\.)?\"?([\\w<>]+)\"?:");

    private final Map<String, Set<String>> calls = new HashMap<>();
    private final Map<String, String> above = new HashMap<>();
    private final Map<String, Integer> depths = new HashMap<>();
    private int wrong = 0;

    private static String listing(ToolProvider javap, Class<?> c) throws Exception {
        URI home = TideCastle.class.getProtectionDomain().getCodeSource().getLocation().toURI();
        StringWriter told = new StringWriter();
        PrintWriter out = new PrintWriter(told);
        javap.run(out, out, "-p", "-c", Path.of(home).resolve(c.getName() + ".class").toString());
        out.flush();
        return told.toString();
    }

    private void gather(ToolProvider javap, Class<?> c) throws Exception {
        above.put(c.getName(), c.getSuperclass().getName());
        Set<String> of = new TreeSet<>();
        for (String line : listing(javap, c).split("\n")) {
            Matcher method = METHOD.matcher(line);
            Matcher call = CALL.matcher(line);
            if (method.find()) {
                String name = method.group(1).equals(c.getName()) ? "<init>" : method.group(1);
                of = calls.computeIfAbsent(c.getName() + "." + name, k -> new TreeSet<>());
            } else if (call.find()) {
                String owner = call.group(1) == null ? c.getName() : call.group(1);
                of.add(owner.replace('/', '.') + "." + call.group(2));
            }
        }
    }

    /** The method that a call means: it may stand in the class above. */
    private String meant(String call) {
        int point = call.lastIndexOf('.');
        String owner = call.substring(0, point);
        String name = call.substring(point);
        while (above.containsKey(owner) && !calls.containsKey(owner + name)) {
            owner = above.get(owner);
        }
        return owner + name;
    }

    private int depth(String method, List<String> open) {
        if (open.contains(method)) {
            wrong++;
            System.out.println("comes back to itself: " + open + " " + method);
            return 0;
        }
        Integer known = depths.get(method);
        if (known != null) {
            return known;
        }
        open.add(method);
        int most = 0;
        for (String call : calls.getOrDefault(method, Set.of())) {
            most = Math.max(most, depth(meant(call), open));
        }
        open.remove(open.size() - 1);
        depths.put(method, most + 1);
        return most + 1;
    }

    public static void main(String[] args) throws Exception {
        Optional<ToolProvider> javap = ToolProvider.findFirst("javap");
        if (javap.isEmpty()) {
            System.out.println("this JDK has no javap: depths were not looked at");
            return;
        }
        DepthTest all = new DepthTest();
        all.gather(javap.get(), TideCastle.class);
        for (Class<?> c : TideCastle.class.getDeclaredClasses()) {
            all.gather(javap.get(), c);
        }
        int deepest = 0;
        for (String method : new TreeSet<>(all.calls.keySet())) {
            int deep = all.depth(method, new ArrayList<>());
            deepest = Math.max(deepest, deep);
            if (deep > MOST_DEEP) {
                all.wrong++;
                System.out.println(method + " goes " + deep + " deep");
            }
        }
        System.out.println("the deepest call goes " + deepest + " deep");
        if (all.wrong != 0 || deepest < 2) {
            System.exit(1);
        }
    }
}
