import java.io.File;
import java.lang.reflect.Method;
import java.nio.file.Files;
import java.util.Arrays;
import java.util.HashMap;
import java.util.List;
import java.util.Map;
import java.util.Set;
import java.util.TreeSet;

/**
 * Runs of calls with their answers, as files under src/test/runs: "new" makes an object, each other line is a call, its
 * arguments, and behind = the answer that is due (true and false are 1 and 0).
 */
public final class RunsTest {
    private static final int MOST_CALLS = 512;

    private final Map<String, Method> methods = new HashMap<>();
    private final Set<String> made = new TreeSet<>();
    private SignalTable table;
    private int runs;
    private int calls;

    public static void main(String[] args) throws Exception {
        RunsTest test = new RunsTest();
        for (Method method : SignalTable.class.getMethods()) {
            if (method.getDeclaringClass() == SignalTable.class) {
                test.methods.put(method.getName(), method);
            }
        }
        File[] files = new File("src/test/runs").listFiles();
        Check.due("there are runs", files != null && files.length > 0, true);
        if (files != null) {
            Arrays.sort(files);
            for (File file : files) {
                test.go(file);
            }
        }
        Check.due("all calls of the face are made", test.made.toString(), new TreeSet<>(test.methods.keySet()).toString());
        Check.end("RunsTest");
    }

    private void go(File file) throws Exception {
        runs = 0;
        List<String> lines = Files.readAllLines(file.toPath());
        for (int i = 0; i < lines.size(); i++) {
            String line = lines.get(i).trim();
            if (line.equals("new")) {
                table = new SignalTable();
                runs++;
                calls = 0;
            } else if (!line.isEmpty()) {
                call(line, file.getName() + " line " + (i + 1) + ", run " + runs + ": ");
            }
        }
    }

    private void call(String line, String where) throws Exception {
        int equals = line.indexOf('=');
        String[] words = line.substring(0, Math.max(equals, 0)).trim().split(" ");
        Method method = methods.get(words[0]);
        calls++;
        if (table == null || method == null || calls > MOST_CALLS) {
            Check.due(where + line, "no call", "a call of the face, of an object's first " + MOST_CALLS);
            return;
        }
        made.add(words[0]);
        Class<?>[] types = method.getParameterTypes();
        Object[] arguments = new Object[types.length];
        for (int i = 0; i < types.length; i++) {
            int number = Integer.parseInt(words[i + 1]);
            arguments[i] = types[i] == boolean.class ? (Object) (number != 0) : (Object) number;
        }
        Object answer = method.invoke(table, arguments);
        String got = answer instanceof Boolean ? (Boolean) answer ? "1" : "0" : answer.toString();
        Check.due(where + line.substring(0, equals).trim(), got, line.substring(equals + 1).trim());
    }
}
