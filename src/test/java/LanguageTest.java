import java.nio.file.Files;
import java.nio.file.Path;
import java.util.List;
import java.util.regex.Matcher;
import java.util.regex.Pattern;

/** Rules of LANGUAGE.md that the text of the class shows; run from the project's folder. */
public final class LanguageTest {
  private static final List<String> BARRED = List.of(
      "\\bthrow\\b", "\\btry\\b", "\\bcatch\\b", "\\bsynchronized\\b", "\\bassert\\b", "->", "::",
      "\\bpackage\\b", "\\bnew [A-Z]\\w*(<.*>)?\\([^)]*\\) *\\{", "\\bSystem\\.(?!arraycopy)", "\\bThread\\b",
      "Exact\\(", "\\bhashCode\\b", "\\btoString\\b", "\\bstatic *\\{", "\\bdouble\\b", "\\bfloat\\b",
      "\\bprotected\\b", "\\bthis\\b(?!\\.)");

  public static void main(String[] args) throws Exception {
    String source = Files.readString(Path.of("src/main/java/ToneLines.java"));
    Check.due("signs from 10 to 126", source.chars().allMatch(c -> c == 10 || c >= 32 && c < 127), true);
    String code = source.replaceAll("(?s)/\\*.*?\\*/", "").replaceAll("//[^\n]*", "")
        .replaceAll("\"[^\"\n]*\"", "\"\"");
    for (String barred : BARRED) {
      Matcher m = Pattern.compile(barred).matcher(code);
      Check.due(m.find() ? barred + " in '" + m.group() + "'" : barred, m.reset().find(), false);
    }
    Matcher imports = Pattern.compile("(?m)^import .*$").matcher(code);
    while (imports.find()) Check.due("the import", imports.group(), "import java.util.Arrays;");
    classes(code);
    methods(code);
    Check.end("LanguageTest");
  }

  private static void classes(String code) {
    Matcher m = Pattern.compile("\\b(class|interface|enum|record) [A-Z]").matcher(code);
    int classes = 0;
    while (m.find()) classes++;
    Check.due("classes, 12 at most: " + classes, classes <= 12, true);
  }

  private static void methods(String code) {
    String[] rows = code.split("\n", -1);
    int start = -1;
    String indent = "";
    for (int i = 0; i < rows.length; i++) {
      Matcher head = Pattern.compile("^( {4}| {8})(?! )[\\w\\[\\] ]+ \\w+\\(([^)]*)\\) \\{$").matcher(rows[i]);
      if (start < 0 && head.find()) {
        start = i;
        indent = head.group(1);
        Check.due("parameters of " + rows[i].trim(), head.group(2).split(",").length <= 7, true);
      } else if (start >= 0 && rows[i].equals(indent + "}")) {
        Check.due("rows of " + rows[start].trim(), i - start < 60, true);
        start = -1;
      }
    }
  }
}
