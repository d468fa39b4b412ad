import java.lang.reflect.Method;
import java.nio.file.Files;
import java.nio.file.Path;
import java.util.HashMap;
import java.util.Map;
import java.util.TreeSet;
import java.util.regex.Matcher;
import java.util.regex.Pattern;

/** The example in README.md is made call by call on one object: each answers what stands behind it. */
public final class ReadmeTest {
  private static final Pattern CALL = Pattern.compile("loft\\.(\\w+)\\(([^)]*)\\); *// (-?\\w+).*");
  private static int wrong = 0;

  public static void main(String[] args) throws Exception {
    Map<String, Method> calls = new HashMap<>();
    for (Method m : NetLoft.class.getDeclaredMethods()) calls.put(m.getName(), m);
    TreeSet<String> unused = new TreeSet<>();
    for (Method m : NetLoft.class.getMethods()) if (m.getDeclaringClass() == NetLoft.class) unused.add(m.getName());
    NetLoft loft = new NetLoft();
    for (String line : Files.readAllLines(Path.of("README.md"))) {
      if (!line.startsWith("loft.")) continue;
      Matcher told = CALL.matcher(line);
      if (!told.matches() || !calls.containsKey(told.group(1))) {
        fault("not a call with its answer: " + line);
        continue;
      }
      unused.remove(told.group(1));
      String got = String.valueOf(make(loft, calls.get(told.group(1)), told.group(2)));
      if (!got.equals(told.group(3))) fault(line + " (answered " + got + ")");
    }
    if (!unused.isEmpty()) fault("not shown: " + unused);
    System.out.println(wrong == 0 ? "the example answers as it tells" : wrong + " faults of the example");
    if (wrong != 0) System.exit(1);
  }

  private static void fault(String what) {
    wrong++;
    System.out.println(what);
  }

  private static Object make(NetLoft loft, Method call, String arguments) throws Exception {
    String[] texts = arguments.split(", *");
    Object[] values = new Object[texts.length];
    for (int i = 0; i < texts.length; i++) {
      boolean flag = texts[i].equals("true") || texts[i].equals("false");
      values[i] = flag ? (Object) Boolean.valueOf(texts[i]) : (Object) Integer.valueOf(texts[i]);
    }
    return call.invoke(loft, values);
  }
}
