import java.io.File;
import java.io.IOException;
import java.lang.reflect.InvocationTargetException;
import java.lang.reflect.Method;
import java.lang.reflect.Modifier;
import java.nio.file.Files;
import java.nio.file.Path;
import java.util.List;
import java.util.Set;
import java.util.TreeSet;
import java.util.regex.Matcher;
import java.util.regex.Pattern;

/** README.md against the class and the project: its example, its calls, its tests, its paths. */
public final class ReadmeTests {
  private static final Pattern ROW = Pattern.compile("g\\.(\\w+)\\((.*?)\\);\\s*// (-?\\d+|true|false): .*");
  private static final Pattern CALL = Pattern.compile("`((?:int|boolean) \\w+\\([a-z, ]*\\))`");
  private static final Pattern TEST = Pattern.compile("`(\\w+Tests)`");
  private static final Pattern SOURCE = Pattern.compile("src/[\\w/.]+\\w");

  private static Method methodOf(String name) {
    for (Method m : GunLine.class.getDeclaredMethods()) if (m.getName().equals(name) && Modifier.isPublic(m.getModifiers())) return m;
    return null;
  }

  private static String answerOf(GunLine g, String name, String args) throws IllegalAccessException, InvocationTargetException {
    Method m = methodOf(name);
    String[] told = args.isEmpty() ? new String[0] : args.split(", ");
    if (m == null || m.getParameterCount() != told.length) return "no such call";
    Object[] given = new Object[told.length];
    for (int i = 0; i < told.length; i++) given[i] = m.getParameterTypes()[i] == long.class ? (Object) Long.decode(told[i]) : (Object) Integer.decode(told[i]);
    return m.invoke(g, given).toString();
  }

  private static void example(List<String> page) throws IllegalAccessException, InvocationTargetException {
    int from = page.indexOf("```java") + 1, rows = 0;
    Due.is("the example begins with a new object", page.get(from).equals("GunLine g = new GunLine();"), true);
    GunLine g = new GunLine();
    for (int i = from + 1; !page.get(i).equals("```"); i++) {
      Matcher row = ROW.matcher(page.get(i));
      if (!row.matches()) { Due.fail("a row that can't be read: " + page.get(i)); continue; }
      String answer = answerOf(g, row.group(1), row.group(2));
      Due.is(page.get(i) + " answers " + answer, answer.equals(row.group(3)), true);
      rows++;
    }
    Due.is("the example has rows", rows > 10, true);
  }

  private static void calls(String page) {
    Set<String> told = new TreeSet<>(), there = new TreeSet<>();
    Matcher call = CALL.matcher(page);
    while (call.find()) told.add(call.group(1));
    for (Method m : GunLine.class.getDeclaredMethods()) if (Modifier.isPublic(m.getModifiers())) {
      String types = "";
      for (Class<?> c : m.getParameterTypes()) types += (types.isEmpty() ? "" : ", ") + c;
      there.add(m.getReturnType() + " " + m.getName() + "(" + types + ")");
    }
    if (!told.equals(there)) Due.fail("README.md tells " + told + ", there are " + there);
  }

  private static void tests(String page) {
    Set<String> told = new TreeSet<>(), there = new TreeSet<>();
    Matcher test = TEST.matcher(page);
    while (test.find()) told.add(test.group(1));
    for (String file : new File("src/test/java").list()) there.add(file.replace(".java", ""));
    if (!told.equals(there)) Due.fail("README.md tells of " + told + ", there are " + there);
    Matcher source = SOURCE.matcher(page);
    while (source.find()) Due.is("there is " + source.group(), new File(source.group()).exists(), true);
    Due.is("there is .ci/run", new File(".ci/run").canExecute(), true);
    Due.is("NONE", page.contains("`NONE` (" + GunLine.NONE + ")"), true);
    Due.is("HIDDEN", page.contains("`HIDDEN` (" + GunLine.HIDDEN + ")"), true);
  }

  public static void main(String[] args) throws IOException, IllegalAccessException, InvocationTargetException {
    List<String> page = Files.readAllLines(Path.of("README.md"));
    example(page);
    calls(String.join("\n", page));
    tests(String.join("\n", page));
    Due.finish();
  }
}
