import java.lang.reflect.Constructor;
import java.lang.reflect.Field;
import java.lang.reflect.Method;
import java.lang.reflect.Modifier;
import java.nio.file.Files;
import java.nio.file.Path;
import java.util.ArrayList;
import java.util.List;
import java.util.Map;
import java.util.Set;
import java.util.TreeMap;
import java.util.TreeSet;
import java.util.regex.Matcher;
import java.util.regex.Pattern;

/** The public face, and those rules of LANGUAGE.md that can be seen in the class or its source. */
public final class LanguageTest {
  private static final Due D = new Due();
  private static final String SOURCE = "src/main/java/FarCandles.java";
  private static final String[] FACE = {
    "int light(int,int,int,int,int,int,int)", "int shift(int,int,int,int)", "int anchor(int,int,int,int)",
    "int redden(int,int,int)", "int redness(int,int)", "int leave(int,boolean)", "int undo()", "int redo()",
    "int told(int,int)", "int count(int)", "int feed(int,long)", "int read()", "int fault()", "int rule(int,int)",
    "int ends(int,int,int)", "int between(int,int,int)", "int widening(int)", "int blame()", "int odd(int)",
    "int worth(int,int)", "int lead(int,int,int)", "int steps(int)", "long far(int,int)", "int boxes(int)",
    "int box(int)", "long delay(int,long,long)", "int blind(int)", "int open()", "int claim(int,int)"};
  private static final String[] CONSTANTS = {
    "NONE", "UNKNOWN", "OUTSIDE", "NOT", "FULL", "QUARREL", "LOOSE", "LARGE"};
  private static final String[] FORBIDDEN = {
    "\\bthrows?\\b", "\\btry\\b", "\\bcatch\\b", "\\bsynchronized\\b", "\\bassert\\b", "->", "::", "\\bimport\\b",
    "\\bpackage\\b", "\\bfloat\\b", "\\bdouble\\b", "\\bSystem\\b", "\\bThread\\b", "Exact\\b", "\\bstatic\\s*\\{",
    "\\bvar\\b", "\\bObject\\b", "\\binstanceof\\b", "\\bhashCode\\b", "\\btoString\\b", "@", "\\bprotected\\b", "\\bvolatile\\b"};

  public static void main(String[] args) throws Exception {
    face();
    nested();
    String code = withoutComments(Files.readString(Path.of(SOURCE)));
    words(code);
    library(code);
    Map<String, String> bodies = methods(code);
    depth(bodies);
    makesNothing(bodies);
    D.end();
  }

  private static void face() {
    Class<?> c = FarCandles.class;
    D.due("public and final", c.getModifiers(), Modifier.PUBLIC | Modifier.FINAL);
    Constructor<?>[] made = c.getDeclaredConstructors();
    D.due("one constructor", made.length, 1);
    D.due("without arguments", made[0].getParameterCount(), 0);
    D.due("a public one", Modifier.isPublic(made[0].getModifiers()));
    Set<String> open = new TreeSet<>();
    Set<String> names = new TreeSet<>();
    for (Method m : c.getDeclaredMethods()) {
      if (Modifier.isPrivate(m.getModifiers())) continue;
      open.add(signature(m));
      names.add(m.getName());
      D.due("public, not static: " + m, m.getModifiers(), Modifier.PUBLIC);
    }
    D.due("the methods are the document's: " + open, open.equals(new TreeSet<>(List.of(FACE))));
    for (Class<?> k : all()) {
      for (Method m : k.getDeclaredMethods()) {
        boolean its = k == c && !Modifier.isPrivate(m.getModifiers());
        D.due("no other method has a public one's name: " + m, its || !names.contains(m.getName()));
      }
    }
    Set<String> constants = new TreeSet<>();
    for (Field f : c.getDeclaredFields()) {
      if (Modifier.isPrivate(f.getModifiers())) continue;
      constants.add(f.getName());
      D.due("a constant: " + f, f.getModifiers(), Modifier.PUBLIC | Modifier.STATIC | Modifier.FINAL);
      D.due("an int: " + f, f.getType() == int.class);
    }
    D.due("the constants are the document's: " + constants, constants.equals(new TreeSet<>(List.of(CONSTANTS))));
  }

  private static String signature(Method m) {
    List<String> types = new ArrayList<>();
    for (Class<?> t : m.getParameterTypes()) {
      types.add(t.getName());
    }
    return m.getReturnType().getName() + " " + m.getName() + "(" + String.join(",", types) + ")";
  }

  private static List<Class<?>> all() {
    List<Class<?>> classes = new ArrayList<>(List.of(FarCandles.class.getDeclaredClasses()));
    classes.add(FarCandles.class);
    return classes;
  }

  private static void nested() {
    D.due("at most twelve classes", all().size() <= 12);
    for (Class<?> k : all()) {
      boolean outer = k == FarCandles.class;
      int modifiers = k.getModifiers();
      D.due("static and not open: " + k, outer || Modifier.isStatic(modifiers) && !Modifier.isPublic(modifiers));
      int fields = 0;
      for (Field f : k.getDeclaredFields()) {
        fields += Modifier.isStatic(f.getModifiers()) ? 0 : 1;
        D.due("static fields are final: " + f, !Modifier.isStatic(f.getModifiers()) || Modifier.isFinal(f.getModifiers()));
      }
      D.due("at most twenty fields: " + k, fields <= 20);
      for (Method m : k.getDeclaredMethods()) {
        D.due("at most seven parameters: " + m, m.getParameterCount() <= 7);
      }
    }
  }

  private static String withoutComments(String source) {
    String bare = source.replaceAll("(?s)/\\*.*?\\*/", "").replaceAll("//[^\n]*", "");
    return bare.replaceAll("\"[^\"\n]*\"", "\"\"").replaceAll("'.'", "0");
  }

  private static void words(String code) {
    for (String word : FORBIDDEN) {
      Matcher m = Pattern.compile(word).matcher(code);
      D.due("no " + word + (m.find() ? " (at " + code.substring(m.start(), Math.min(code.length(), m.start() + 30)) + ")" : ""),
          !Pattern.compile(word).matcher(code).find());
    }
    for (char c : code.toCharArray()) {
      if (c > 126) D.due("a sign above 126: " + (int) c, false);
    }
    D.due("one public class", code.split("\\bclass\\b").length > 1 && code.split("public (final )?class").length == 2);
  }

  /** Whatever is not the class's own must be one of the few things that rule 4 lists. */
  private static void library(String code) {
    Set<String> own = new TreeSet<>();
    for (Class<?> k : all()) {
      own.add(k.getSimpleName());
    }
    Matcher name = Pattern.compile("(?<![\\w.])([A-Z][a-z]\\w*)(\\.\\w+)?").matcher(code);
    Set<String> used = new TreeSet<>();
    while (name.find()) {
      if (!own.contains(name.group(1))) used.add(name.group());
    }
    Set<String> listed = Set.of("Math.floorDiv", "Math.max", "Math.min", "String");
    D.due("nothing of the library but " + listed + ": " + used, listed.containsAll(used));
    Matcher text = Pattern.compile("\\bword\\.(\\w+)").matcher(code);
    while (text.find()) {
      D.due("a String's " + text.group(1), Set.of("length", "charAt").contains(text.group(1)));
    }
  }

  /** Methods stay short: from a header with its brace to the brace that closes it. Their bodies, by name. */
  private static Map<String, String> methods(String code) {
    Pattern header = Pattern.compile("\\)\\s*\\{");
    String[] lines = code.split("\n", -1);
    Map<String, String> bodies = new TreeMap<>();
    for (int n = 0; n < lines.length; n++) {
      boolean begins = header.matcher(lines[n]).find() && lines[n].matches("\\s*((public|private|static|final)\\s+)*[\\w\\[\\]]+\\s+\\w+\\(.*|\\s*\\w+\\(\\)\\s*\\{")
          && !lines[n].matches("\\s*(if|for|while|switch|else|return)\\b.*");
      if (!begins) continue;
      int depth = 0;
      int end = n;
      StringBuilder body = new StringBuilder();
      for (int k = n; k < lines.length; k++) {
        depth += lines[k].length() - lines[k].replace("{", "").length();
        depth -= lines[k].length() - lines[k].replace("}", "").length();
        end = k;
        body.append(k == n ? "" : lines[k] + "\n");
        if (depth == 0) break;
      }
      D.due("a short method at" + lines[n] + " (" + (end - n + 1) + " lines)", end - n + 1 <= 60);
      String name = lines[n].replaceAll("\\(.*", "").replaceAll(".*\\s", "");
      // Of methods of one name the calls of all count.
      bodies.merge(name, body.toString(), String::concat);
    }
    Set<String> declared = new TreeSet<>();
    for (Class<?> k : all()) {
      for (Method m : k.getDeclaredMethods()) declared.add(m.getName());
    }
    D.due("all methods were looked at", bodies.keySet().containsAll(declared));
    return bodies;
  }

  /** Calls that are no recursion go at most eight deep; and there is no recursion. */
  private static void depth(Map<String, String> bodies) {
    for (String name : bodies.keySet()) {
      int deep = deepest(name, bodies, 1);
      D.due(name + " goes " + deep + " deep", deep <= 8);
    }
  }

  private static int deepest(String name, Map<String, String> bodies, int level) {
    int deep = level;
    Matcher call = Pattern.compile("\\b(\\w+)\\(").matcher(bodies.get(name));
    while (level <= 20 && call.find()) {
      if (bodies.containsKey(call.group(1))) {
        deep = Math.max(deep, deepest(call.group(1), bodies, level + 1));
      }
    }
    return deep;
  }

  /** All that is ever made is made with the object. */
  private static void makesNothing(Map<String, String> bodies) {
    for (Map.Entry<String, String> e : bodies.entrySet()) {
      D.due(e.getKey() + " makes nothing", !Pattern.compile("\\bnew\\b").matcher(e.getValue()).find());
    }
  }
}
