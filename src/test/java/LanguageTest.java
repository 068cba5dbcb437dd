import java.io.IOException;
import java.nio.file.Files;
import java.nio.file.Path;
import java.util.ArrayDeque;
import java.util.ArrayList;
import java.util.Deque;
import java.util.HashMap;
import java.util.List;
import java.util.Map;
import java.util.TreeSet;
import java.util.regex.Matcher;
import java.util.regex.Pattern;

/** What of LANGUAGE.md can be seen in the text of the class; its path is the argument. */
public final class LanguageTest {
  private static final int MOST_LINES = 60;
  private static final int MOST_DEEP = 8;
  private static final Pattern FORBIDDEN = Pattern.compile("\\b(throw|throws|try|catch|synchronized|"
      + "assert|import|package|finally|native|strictfp|volatile|transient|var|yield|float|equals|"
      + "hashCode|toString|instanceof|protected|Object|Exception|System\\.(?!arraycopy)\\w*|"
      + "Integer\\.(?!compare|max|min|bitCount)\\w*|Math\\.(?!max|min|abs|floorDiv|floorMod)\\w*)\\b"
      + "|->|::|@");
  private static final Pattern HEAD =
      Pattern.compile("^ +(?:public |private |static )*[A-Za-z]+(?:\\[\\])? ?(\\w*)\\([^;]*\\) \\{$");

  private static final List<String> faults = new ArrayList<>();

  /** The text without what stands in comments and between quotes. */
  private static String bare(String text) {
    return text.replaceAll("(?s)/\\*.*?\\*/", "").replaceAll("//[^\\n]*", "")
        .replaceAll("\"[^\"\\n]*\"", "\"\"").replaceAll("'[^'\\n]+'", "' '");
  }

  private static void lookAtWords(String bare) {
    Matcher matcher = FORBIDDEN.matcher(bare);
    while (matcher.find()) {
      faults.add("not in the language: " + matcher.group());
    }
    for (String line : bare.split("\n")) {
      if (line.length() > 110) {
        faults.add("a long line: " + line);
      }
    }
  }

  /** Each method's length, and which others it calls by name. */
  private static Map<String, TreeSet<String>> lookAtMethods(String bare) {
    Map<String, TreeSet<String>> calls = new HashMap<>();
    String name = null;
    int began = 0;
    int depth = 0;
    int nameDepth = 0;
    String[] lines = bare.split("\n");
    for (int i = 0; i < lines.length; i++) {
      Matcher matcher = HEAD.matcher(lines[i]);
      boolean isHead = name == null && depth > 0 && matcher.matches();
      if (isHead) {
        name = matcher.group(1).isEmpty() ? "new" : matcher.group(1);
        began = i;
        nameDepth = depth;
        calls.putIfAbsent(name, new TreeSet<>());
      }
      depth += lines[i].length() - lines[i].replace("{", "").length();
      depth -= lines[i].length() - lines[i].replace("}", "").length();
      if (name != null && !isHead) {
        Matcher call = Pattern.compile("\\b(\\w+)\\(").matcher(lines[i]);
        while (call.find()) {
          calls.get(name).add(call.group(1));
        }
      }
      if (name != null && depth == nameDepth) {
        if (i - began + 1 > MOST_LINES) {
          faults.add("a long method: " + name);
        }
        name = null;
      }
    }
    return calls;
  }

  private static int deepest(String name, Map<String, TreeSet<String>> calls, Deque<String> open) {
    if (!calls.containsKey(name) || open.contains(name)) {
      return 0;
    }
    open.push(name);
    int deepest = 0;
    for (String callee : calls.get(name)) {
      deepest = Math.max(deepest, deepest(callee, calls, open));
    }
    open.pop();
    return deepest + 1;
  }

  public static void main(String[] args) throws IOException {
    String text = Files.readString(Path.of(args[0]));
    for (int i = 0; i < text.length(); i++) {
      if (text.charAt(i) > 126) {
        faults.add("a sign beyond 126 at " + i);
      }
    }
    String bare = bare(text);
    lookAtWords(bare);
    Map<String, TreeSet<String>> calls = lookAtMethods(bare);
    if (calls.size() < 100) {
      faults.add("only " + calls.size() + " methods were seen");
    }
    int deepest = 0;
    for (String name : calls.keySet()) {
      int deep = deepest(name, calls, new ArrayDeque<>());
      deepest = Math.max(deepest, deep);
      if (deep > MOST_DEEP) {
        faults.add("calls " + deep + " deep: " + name);
      }
    }
    for (String fault : faults) {
      System.out.println(fault);
    }
    System.out.println(calls.size() + " methods, calls go " + deepest + " deep");
    if (!faults.isEmpty()) {
      System.exit(1);
    }
  }
}
