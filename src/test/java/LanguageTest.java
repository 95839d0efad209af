import java.lang.reflect.Constructor;
import java.lang.reflect.Field;
import java.lang.reflect.Method;
import java.lang.reflect.Modifier;
import java.nio.file.Files;
import java.nio.file.Path;
import java.util.ArrayList;
import java.util.List;
import java.util.Set;
import java.util.TreeSet;
import java.util.regex.Matcher;
import java.util.regex.Pattern;

/** The public face, and those rules of LANGUAGE.md that can be seen in the class or its source. */
public final class LanguageTest {
  private static final Due D = new Due();
  private static final String SOURCE = "src/main/java/FarCandles.java";
  private static final String[] FACE = {
    "int light(int,int,int,int,int,int,int)", "int shift(int,int,int,int)", "int anchor(int,int,int,int)",
    "int redden(int,int,int)", "int redness(int,int)", "int leave(int,boolean)", "int undo()", "int redo()",
    "int told(int,int)", "int count(int)", "int feed(int,long)", "int read()", "int fault()", "int rule(int,int)",
    "int ends(int,int,int)", "int between(int,int,int)", "int widening(int)", "int blame()", "int odd(int)",
    "int worth(int,int)", "int lead(int,int,int)", "int steps(int)", "long far(int,int)", "int boxes(int)",
    "int box(int)", "long delay(int,long,long)", "int blind(int)", "int open()", "int claim(int,int)"};
  private static final String[] CONSTANTS = {
    "NONE", "UNKNOWN", "OUTSIDE", "NOT", "FULL", "QUARREL", "LOOSE", "LARGE"};
  private static final String[] FORBIDDEN = {
    "\\bthrows?\\b", "\\btry\\b", "\\bcatch\\b", "\\bsynchronized\\b", "\\bassert\\b", "->", "::", "\\bimport\\b",
    "\\bpackage\\b", "\\bfloat\\b", "\\bdouble\\b", "\\bSystem\\b", "\\bThread\\b", "Exact\\b", "\\bstatic\\s*\\{",
    "\\bvar\\b", "\\bObject\\b", "\\bhashCode\\b", "\\btoString\\b", "@", "\\bprotected\\b", "\\bvolatile\\b"};

  public static void main(String[] args) throws Exception {
    face();
    nested();
    String code = withoutComments(Files.readString(Path.of(SOURCE)));
    words(code);
    methods(code);
    D.end();
  }

  private static void face() {
    Class<?> c = FarCandles.class;
    D.due("public and final", c.getModifiers(), Modifier.PUBLIC | Modifier.FINAL);
    Constructor<?>[] made = c.getDeclaredConstructors();
    D.due("one constructor", made.length, 1);
    D.due("without arguments", made[0].getParameterCount(), 0);
    D.due("a public one", Modifier.isPublic(made[0].getModifiers()));
    Set<String> open = new TreeSet<>();
    Set<String> names = new TreeSet<>();
    for (Method m : c.getDeclaredMethods()) {
      if (Modifier.isPrivate(m.getModifiers())) continue;
      open.add(signature(m));
      names.add(m.getName());
      D.due("public, not static: " + m, m.getModifiers(), Modifier.PUBLIC);
    }
    D.due("the methods are the document's: " + open, open.equals(new TreeSet<>(List.of(FACE))));
    for (Class<?> k : all()) {
      for (Method m : k.getDeclaredMethods()) {
        boolean its = k == c && !Modifier.isPrivate(m.getModifiers());
        D.due("no other method has a public one's name: " + m, its || !names.contains(m.getName()));
      }
    }
    Set<String> constants = new TreeSet<>();
    for (Field f : c.getDeclaredFields()) {
      if (Modifier.isPrivate(f.getModifiers())) continue;
      constants.add(f.getName());
      D.due("a constant: " + f, f.getModifiers(), Modifier.PUBLIC | Modifier.STATIC | Modifier.FINAL);
      D.due("an int: " + f, f.getType() == int.class);
    }
    D.due("the constants are the document's: " + constants, constants.equals(new TreeSet<>(List.of(CONSTANTS))));
  }

  private static String signature(Method m) {
    List<String> types = new ArrayList<>();
    for (Class<?> t : m.getParameterTypes()) {
      types.add(t.getName());
    }
    return m.getReturnType().getName() + " " + m.getName() + "(" + String.join(",", types) + ")";
  }

  private static List<Class<?>> all() {
    List<Class<?>> classes = new ArrayList<>(List.of(FarCandles.class.getDeclaredClasses()));
    classes.add(FarCandles.class);
    return classes;
  }

  private static void nested() {
    D.due("at most twelve classes", all().size() <= 12);
    for (Class<?> k : all()) {
      boolean outer = k == FarCandles.class;
      int modifiers = k.getModifiers();
      D.due("static and not open: " + k, outer || Modifier.isStatic(modifiers) && !Modifier.isPublic(modifiers));
      int fields = 0;
      for (Field f : k.getDeclaredFields()) {
        fields += Modifier.isStatic(f.getModifiers()) ? 0 : 1;
        D.due("static fields are final: " + f, !Modifier.isStatic(f.getModifiers()) || Modifier.isFinal(f.getModifiers()));
      }
      D.due("at most twenty fields: " + k, fields <= 20);
      for (Method m : k.getDeclaredMethods()) {
        D.due("at most seven parameters: " + m, m.getParameterCount() <= 7);
      }
    }
  }

  private static String withoutComments(String source) {
    String bare = source.replaceAll("(?s)/\\*.*?\\*/", "").replaceAll("//[^\n]*", "");
    return bare.replaceAll("\"[^\"\n]*\"", "\"\"").replaceAll("'.'", "0");
  }

  private static void words(String code) {
    for (String word : FORBIDDEN) {
      Matcher m = Pattern.compile(word).matcher(code);
      D.due("no " + word + (m.find() ? " (at " + code.substring(m.start(), Math.min(code.length(), m.start() + 30)) + ")" : ""),
          !Pattern.compile(word).matcher(code).find());
    }
    for (char c : code.toCharArray()) {
      if (c > 126) D.due("a sign above 126: " + (int) c, false);
    }
    D.due("one public class", code.split("\\bclass\\b").length > 1 && code.split("public (final )?class").length == 2);
  }

  /** Methods stay short: from a header with its brace to the brace that closes it. */
  private static void methods(String code) {
    Pattern header = Pattern.compile("\\)\\s*\\{");
    String[] lines = code.split("\n", -1);
    for (int n = 0; n < lines.length; n++) {
      boolean begins = header.matcher(lines[n]).find() && lines[n].matches("\\s*((public|private|static|final)\\s+)*[\\w\\[\\]]+\\s+\\w+\\(.*|\\s*\\w+\\(\\)\\s*\\{")
          && !lines[n].matches("\\s*(if|for|while|switch|else|return)\\b.*");
      if (!begins) continue;
      int depth = 0;
      int end = n;
      for (int k = n; k < lines.length; k++) {
        depth += lines[k].length() - lines[k].replace("{", "").length();
        depth -= lines[k].length() - lines[k].replace("}", "").length();
        end = k;
        if (depth == 0) break;
      }
      D.due("a short method at" + lines[n] + " (" + (end - n + 1) + " lines)", end - n + 1 <= 60);
    }
  }
}
