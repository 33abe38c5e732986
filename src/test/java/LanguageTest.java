import java.nio.file.Files;
import java.nio.file.Path;
import java.util.HashMap;
import java.util.List;
import java.util.Map;
import java.util.Set;
import java.util.TreeSet;
import java.util.regex.Matcher;
import java.util.regex.Pattern;

/** Rules of LANGUAGE.md that the text of the class shows; run from the project's folder. */
public final class LanguageTest {
  private static final List<String> BARRED = List.of(
      "\\bthrow\\b", "\\btry\\b", "\\bcatch\\b", "\\bsynchronized\\b", "\\bassert\\b", "->", "::",
      "\\bpackage\\b", "\\bnew [A-Z]\\w*(<.*>)?\\([^)]*\\) *\\{", "\\bSystem\\.(?!arraycopy)", "\\bThread\\b",
      "Exact\\(", "\\bhashCode\\b", "\\btoString\\b", "\\bstatic *\\{", "\\bdouble\\b", "\\bfloat\\b",
      "\\bprotected\\b", "\\bthis\\b(?!\\.)");

  public static void main(String[] args) throws Exception {
    String source = Files.readString(Path.of("src/main/java/ToneLines.java"));
    Check.due("signs from 10 to 126", source.chars().allMatch(c -> c == 10 || c >= 32 && c < 127), true);
    String code = source.replaceAll("(?s)/\\*.*?\\*/", "").replaceAll("//[^\n]*", "")
        .replaceAll("\"[^\"\n]*\"", "\"\"");
    for (String barred : BARRED) {
      Matcher m = Pattern.compile(barred).matcher(code);
      Check.due(m.find() ? barred + " in '" + m.group() + "'" : barred, m.reset().find(), false);
    }
    Matcher imports = Pattern.compile("(?m)^import .*$").matcher(code);
    while (imports.find()) Check.due("the import", imports.group(), "import java.util.Arrays;");
    classes(code);
    methods(code);
    library(code);
    statics(code);
    calls(code);
    Check.end("LanguageTest");
  }

  private static void classes(String code) {
    Matcher m = Pattern.compile("\\b(class|interface|enum|record) [A-Z]").matcher(code);
    int classes = 0;
    while (m.find()) classes++;
    Check.due("classes, 12 at most: " + classes, classes <= 12, true);
  }

  private static void library(String code) {
    Set<String> may = Set.of("Integer.bitCount", "Math.max", "Math.min", "System.arraycopy", "Arrays.fill");
    Matcher m = Pattern.compile("\\b[A-Z][a-z]\\w*\\.[a-z]\\w*(?=\\()").matcher(code);
    while (m.find()) Check.due(m.group() + " is in the list", may.contains(m.group()), true);
  }

  private static void statics(String code) {
    Matcher m = Pattern.compile("(?m)^ *(\\w+ )*static [^(\n]*=[^\n]*$").matcher(code);
    int found = 0;
    while (m.find()) {
      found++;
      boolean constant = m.group().matches(" *(public|private) static final (int|String) [A-Z_]+ = [^;]*;");
      Check.due("a constant: " + m.group().trim(), constant, true);
    }
    Check.due("constants are found: " + found, found > 40, true);
  }

  /** Which methods a method calls, by their names alone: methods of one name count as one. */
  private static Map<String, Set<String>> graph(String code) {
    Map<String, Set<String>> all = new HashMap<>();
    String now = "";
    for (String row : code.split("\n")) {
      Matcher head = Pattern.compile("^(?: {4}| {8})(?! )(?:[\\w\\[\\]]+ )+(\\w+)\\([^)]*\\) \\{$").matcher(row);
      if (head.find()) {
        now = head.group(1);
        all.putIfAbsent(now, new TreeSet<>());
        continue;
      }
      Matcher call = Pattern.compile("(?<!new )\\b([a-z]\\w*)\\(").matcher(row);
      while (!now.isEmpty() && call.find()) all.get(now).add(call.group(1));
    }
    return all;
  }

  /** No method comes to itself again, and calls go eight deep at most. */
  private static void calls(String code) {
    Map<String, Set<String>> all = graph(code);
    Check.due("methods are found: " + all.size(), all.size() > 80, true);
    int deepest = 0;
    for (String name : all.keySet()) deepest = Math.max(deepest, depth(all, name, 0));
    Check.due("calls go eight deep at most: " + deepest, deepest <= 8, true);
  }

  private static int depth(Map<String, Set<String>> all, String name, int open) {
    if (open > 20) return open;
    int deepest = 0;
    for (String other : all.get(name)) {
      if (all.containsKey(other)) deepest = Math.max(deepest, depth(all, other, open + 1));
    }
    return deepest + 1;
  }

  private static void methods(String code) {
    String[] rows = code.split("\n", -1);
    int start = -1;
    String indent = "";
    for (int i = 0; i < rows.length; i++) {
      Matcher head = Pattern.compile("^( {4}| {8})(?! )[\\w\\[\\] ]+ \\w+\\(([^)]*)\\) \\{$").matcher(rows[i]);
      if (start < 0 && head.find()) {
        start = i;
        indent = head.group(1);
        Check.due("parameters of " + rows[i].trim(), head.group(2).split(",").length <= 7, true);
      } else if (start >= 0 && rows[i].equals(indent + "}")) {
        Check.due("rows of " + rows[start].trim(), i - start < 60, true);
        start = -1;
      }
    }
  }
}
