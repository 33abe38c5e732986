import java.util.ArrayList;
import java.util.List;

/**
 * Nothing by chance: all WORDS of up to three TONES and SYLLABLES by all RULES, and all short TEXTS;
 * ToneLines answers as Model does. Of the RULES each WORD meets one in so many (stride), another one
 * each time; with 1 as the argument each WORD meets all of them, which takes hours.
 */
public final class SmallWordsTest {
  private static final String[] K = {"low", "mid", "high", "any"};
  private static final String[] MARKS = {"o", "O", "-o", "-O"};

  public static void main(String[] args) {
    int stride = args.length > 0 ? Math.max(1, Integer.parseInt(args[0])) : 1511;
    smallWords(stride);
    shortWordTexts();
    shortRuleTexts();
    Check.end("SmallWordsTest");
  }

  // ---- all small WORDS by all RULES

  private static void smallWords(int stride) {
    List<String> rules = allRules();
    int next = 0;
    for (int t = 0; t <= 3; t++) {
      for (int s = 0; s <= 3; s++) {
        for (String lines : lineSets(t, s)) {
          for (String kinds : rows(t, "l", "m", "h")) {
            for (String marks : rows(s, MARKS)) {
              String text = kinds + "/" + marks + "/" + lines;
              for (; next < rules.size(); next += stride) byOne(text, rules.get(next));
              next -= rules.size();
            }
          }
        }
      }
    }
  }

  private static void byOne(String text, String rule) {
    ToneLines x = Check.made(text, rule);
    Model m = new Model();
    m.word = Model.wordOf(text);
    m.rules = Model.rulesOf(rule);
    int changes = m.does(0);
    boolean same = x.done(0, 1) == m.passes && x.does(0) == changes
        && Check.spelled(x, 0).equals(m.word.text());
    Check.due(same ? "" : "'" + text + "' by '" + rule + "' as Model", same, true);
  }

  private static List<String> allRules() {
    List<String> ifs = new ArrayList<>(List.of(""));
    for (String not : new String[] {"", "not "}) {
      for (String test : new String[] {"begin", "end", "heavy", "many", "float"}) ifs.add(" if " + not + test);
      for (String k : K) {
        ifs.add(" if " + not + "before " + k);
        ifs.add(" if " + not + "after " + k);
      }
    }
    List<String> all = new ArrayList<>();
    for (String again : new String[] {"", "again "}) {
      for (String verb : verbsWithoutIf()) all.add(again + verb + ";");
      for (String verb : verbsWithIf()) for (String test : ifs) all.add(again + verb + test + ";");
    }
    return all;
  }

  private static List<String> verbsWithoutIf() {
    return List.of("link right", "link left", "fill low", "fill mid", "fill high",
        "flat 1 first", "flat 1 last", "flat 2 first", "flat 2 last", "flat 3 first");
  }

  private static List<String> verbsWithIf() {
    List<String> all = new ArrayList<>();
    for (String k : K) {
      for (String side : new String[] {"right", "left"}) {
        for (int n : new int[] {1, 2, 9}) all.add("spread " + k + " " + side + " " + n);
        all.add("shift " + k + " " + side);
        all.add("dock " + k + " " + side);
      }
      all.add("cut " + k + " first");
      all.add("cut " + k + " last");
      all.add("drop " + k);
      all.add("fuse " + k);
      for (int second = 0; second < 3; second++) all.add("turn " + k + " to " + K[second]);
    }
    return all;
  }

  private static List<String> rows(int n, String... of) {
    List<String> all = new ArrayList<>(List.of(""));
    for (int i = 0; i < n; i++) {
      List<String> longer = new ArrayList<>();
      for (String row : all) for (String one : of) longer.add(row + one);
      all = longer;
    }
    return all;
  }

  /** All sets of LINES of which none cross. */
  private static List<String> lineSets(int tones, int syllables) {
    List<String> all = new ArrayList<>();
    for (int set = 0; set < 1 << tones * syllables; set++) {
      StringBuilder text = new StringBuilder();
      boolean cross = false;
      for (int a = 0; a < tones * syllables; a++) {
        if ((set >> a & 1) == 0) continue;
        text.append(a / syllables).append(':').append(a % syllables).append(' ');
        for (int b = 0; b < a; b++) {
          cross |= (set >> b & 1) != 0 && b / syllables < a / syllables && b % syllables > a % syllables;
        }
      }
      if (!cross) all.add(text.toString().trim());
    }
    return all;
  }

  // ---- all short TEXTS

  private static void shortWordTexts() {
    for (int n = 0; n <= 5; n++) {
      for (String text : rows(n, "l", "h", "/", "o", "O", "-", " ")) wordText(text);
      for (String text : rows(n, "0", "1", "2", ":", " ", "/")) wordText("hl/oo/" + text);
      for (String text : rows(n, "0", "1", "2", ":", " ")) wordText("hlhlhlhlhlhl/oooooooooooo/0:1 1:11" + text);
    }
  }

  private static void wordText(String text) {
    int due;
    try {
      due = Model.wordOf(text).tones.size();
    } catch (Model.Fault f) {
      due = -4 - f.at;
    }
    Check.due("word() of '" + text + "'", Check.word(new ToneLines(), text), due);
  }

  private static void shortRuleTexts() {
    String[] pieces = {"again ", "link ", "spread ", "flat ", "turn ", "drop", "any ", "high ", "right ", "last ",
        "to ", "2", "0", " if ", "not ", "end", "after ", ";", " "};
    for (int n = 0; n <= 3; n++) {
      for (String text : rows(n, pieces)) {
        ruleText(text);
        ruleText("spread any left 3" + text);
        ruleText("again shift low left if " + text);
        ruleText("drop mid;flat " + text);
      }
    }
  }

  private static void ruleText(String text) {
    int due;
    try {
      due = Model.rulesOf(text).size();
    } catch (Model.Fault f) {
      due = -4 - f.at;
    }
    Check.due("rules() of '" + text + "'", Check.rules(new ToneLines(), text), due);
  }
}
