import java.util.ArrayList;
import java.util.List;
import java.util.regex.Matcher;
import java.util.regex.Pattern;

/** A text of rules, cut into tokens by a pattern and held against rows of what may come. */
final class PlainRules {
  private static final Pattern TOKEN = Pattern.compile("[a-z]+|-?[0-9]+|-|[^ ]");
  private static final String[] FORMS = {
    "sort N0:5 time M-9999:9999 to T9999 colour M-9999:9999 to T9999 ;",
    "dust N0:99 to U99 ;",
    "blur N0:5 by N0:999 ;",
    "own N0:9999 ;",
    "claim N0:9 above|below M-40000:40000 ;"};

  final int[][] time = new int[6][2];
  final int[][] colour = new int[6][2];
  final int[] dust = {31, 31};
  final int[] blur = new int[6];
  int own = 0;
  final List<int[]> claims = new ArrayList<>();
  int clauses = 0;
  int fault = 0;
  int faultAt = -1;

  private final String text;
  private final Matcher tokens;
  private String token = null;
  private int place = 0;

  PlainRules(String text) {
    this.text = text;
    tokens = TOKEN.matcher(text);
    next();
    while (token != null && fault == 0) clause();
  }

  private void next() {
    boolean found = tokens.find();
    token = found ? tokens.group() : null;
    place = found ? tokens.start() : text.length();
  }

  private void fail(int number, int at) {
    if (fault == 0) {
      fault = number;
      faultAt = at;
    }
  }

  private void clause() {
    String[] form = null;
    for (String f : FORMS) {
      if (f.split(" ")[0].equals(token)) form = f.split(" ");
    }
    if (form == null) {
      fail(1, place);
    } else if (form[0].equals("claim") && claims.size() == 8) {
      fail(3, place);
    } else if (clauses == 20) {
      fail(4, place);
    } else {
      follow(form);
    }
  }

  private void follow(String[] form) {
    List<Integer> numbers = new ArrayList<>();
    boolean above = false;
    for (String part : form) {
      if (token == null) {
        fail(1, text.length());
      } else if (part.matches("[NMTU].*")) {
        number(part, numbers);
      } else if (!List.of(part.split("\\|")).contains(token)) {
        fail(1, place);
      }
      if (fault != 0) return;
      above |= "above".equals(token);
      next();
    }
    clauses++;
    apply(form[0], numbers, above);
  }

  private void number(String part, List<Integer> numbers) {
    boolean signed = part.charAt(0) == 'M' || part.charAt(0) == 'T';
    if (token.equals("-") && signed) {
      fail(1, place + 1);
    } else if (!token.matches(signed ? "-?[0-9]+" : "[0-9]+")) {
      fail(1, place);
    } else if (token.matches("-?[0-9]{6,}")) {
      fail(2, place);
    } else {
      String[] bounds = part.substring(1).split(":");
      int n = Integer.parseInt(token);
      int least = bounds.length == 2 ? Integer.parseInt(bounds[0]) : numbers.get(numbers.size() - 1);
      if (n < least || n > Integer.parseInt(bounds[bounds.length - 1])) fail(2, place);
      numbers.add(n);
    }
  }

  private void apply(String word, List<Integer> n, boolean above) {
    switch (word) {
      case "sort" -> {
        time[n.get(0)] = new int[] {n.get(1), n.get(2)};
        colour[n.get(0)] = new int[] {n.get(3), n.get(4)};
      }
      case "dust" -> {
        dust[0] = n.get(0);
        dust[1] = n.get(1);
      }
      case "blur" -> blur[n.get(0)] = n.get(1);
      case "own" -> own = n.get(0);
      default -> claims.add(new int[] {n.get(0), n.get(1), above ? 1 : 0});
    }
  }
}
