import java.lang.reflect.Method;
import java.lang.reflect.Modifier;
import java.nio.file.Files;
import java.nio.file.Path;
import java.util.Map;
import java.util.Set;
import java.util.TreeMap;
import java.util.TreeSet;
import java.util.regex.Matcher;
import java.util.regex.Pattern;

/** Runs the calls in README.md: each answers what the page says behind it. */
public final class ReadmeTest {
  private static final Due D = new Due();
  private static final Pattern CALL = Pattern.compile("x\\.(\\w+)\\((.*?)\\); +// (-?\\w+)(:.*)?");
  private static final String MAKES = "FarCandles x = new FarCandles();";
  // Bytes of a text, and the text itself as the page tells it.
  private static final Pattern BYTES = Pattern.compile("\\d+, 0x([0-9a-f]+)L");
  private static final Pattern QUOTED = Pattern.compile("\"([^\"]*)\"");

  private final Map<String, Method> face = new TreeMap<>();
  private final Set<String> shown = new TreeSet<>();
  private FarCandles x = null;
  private boolean inBlock = false;

  public static void main(String[] args) throws Exception {
    ReadmeTest test = new ReadmeTest();
    for (String line : Files.readAllLines(Path.of("README.md"))) {
      test.line(line);
    }
    D.due("every method is shown, these are: " + test.shown, test.shown.equals(test.face.keySet()));
    D.end();
  }

  private ReadmeTest() {
    for (Method m : FarCandles.class.getDeclaredMethods()) {
      if (Modifier.isPublic(m.getModifiers())) {
        face.put(m.getName(), m);
      }
    }
  }

  private void line(String line) throws Exception {
    if (line.startsWith("```")) {
      inBlock = line.equals("```java");
      x = null;
    } else if (inBlock && line.equals(MAKES)) {
      x = new FarCandles();
    } else if (inBlock) {
      call(line);
    }
  }

  private void call(String line) throws Exception {
    Matcher m = CALL.matcher(line);
    boolean isCall = x != null && m.matches() && face.containsKey(m.group(1));
    D.due("a call of an object, with its answer: " + line, isCall);
    if (!isCall) {
      return;
    }
    Method method = face.get(m.group(1));
    shown.add(m.group(1));
    Class<?>[] types = method.getParameterTypes();
    String[] said = m.group(2).isEmpty() ? new String[0] : m.group(2).split(", ");
    D.due("as many arguments as there are: " + line, said.length, types.length);
    Object[] arguments = new Object[types.length];
    for (int k = 0; k < types.length; k++) {
      arguments[k] = argument(said[k], types[k]);
    }
    D.due(line, ((Number) method.invoke(x, arguments)).longValue(), number(m.group(3)));
    if (m.group(1).equals("feed")) {
      quoted(m.group(2), line);
    }
  }

  private static Object argument(String said, Class<?> type) throws Exception {
    if (type == boolean.class) {
      return Boolean.valueOf(said);
    }
    long n = number(said);
    return type == long.class ? (Object) n : (Object) (int) n;
  }

  private static long number(String said) throws Exception {
    String name = said.replace("FarCandles.", "");
    if (name.matches("[A-Z]+")) {
      return FarCandles.class.getField(name).getInt(null);
    }
    return Long.decode(name.endsWith("L") ? name.substring(0, name.length() - 1) : name);
  }

  private static void quoted(String arguments, String line) {
    Matcher bytes = BYTES.matcher(arguments);
    Matcher text = QUOTED.matcher(line);
    boolean both = bytes.matches() && text.find();
    D.due("bytes and their text: " + line, both);
    StringBuilder hex = new StringBuilder();
    for (char c : (both ? text.group(1) : "").toCharArray()) {
      hex.append(String.format("%02x", (int) c));
    }
    D.due("the text is that of the bytes: " + line, both && hex.toString().equals(bytes.group(1)));
  }
}
