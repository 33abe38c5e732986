import java.io.IOException;
import java.nio.charset.StandardCharsets;
import java.nio.file.Files;
import java.nio.file.Path;

/** What the tests share: telling texts by feed and back, and counting answers that are not due. */
final class Check {
  static int right = 0;
  static int wrong = 0;
  /** The sentence of the document that is tested; empty, where a test is of none alone. */
  private static String sentence = "";
  private static int sentences = 0;
  private static int answersAhead = 0;
  private static String document = "";

  private Check() { }

  static void due(String call, long got, long want) {
    if (got == want) {
      right++;
    } else {
      wrong++;
      if (!sentence.isEmpty()) System.out.print("[" + sentence + "] ");
      System.out.println(call + " answered " + got + ", due is " + want);
    }
  }

  static void due(String call, boolean got, boolean want) {
    due(call, got ? 1 : 0, want ? 1 : 0);
  }

  static void due(String call, String got, String want) {
    boolean same = got.equals(want);
    due(same ? call : call + " answered '" + got + "', due is '" + want + "': alike", same, true);
  }

  /**
   * The tests that follow, up to the next sentence, are of this one. It stands in the document word
   * for word, so that a test can't outlive what it is of, and has one test at least.
   */
  static void sentence(String words) {
    endSentence();
    sentence = words;
    sentences++;
    due("the document has it", document().contains(words), true);
    answersAhead = right + wrong;
  }

  private static void endSentence() {
    if (!sentence.isEmpty()) due("it has a test", right + wrong > answersAhead, true);
    sentence = "";
  }

  private static String document() {
    if (document.isEmpty()) {
      try {
        document = Files.readString(Path.of("../shared/DOC.md")).replaceAll("\\s+", " ");
      } catch (IOException e) {
        due("reading ../shared/DOC.md: " + e, false, true);
        document = " ";
      }
    }
    return document;
  }

  /** Five numbers for feed from 20 bytes of a text, blanks where it is over. */
  static int[] five(byte[] text, int from) {
    int[] all = new int[5];
    for (int i = 0; i < 20; i++) {
      int sign = from + i < text.length ? text[from + i] & 255 : 32;
      all[i / 4] = all[i / 4] << 8 | sign;
    }
    return all;
  }

  /** The text comes behind the tape, just as long as it is. */
  static void lay(ToneLines x, String text) {
    byte[] bytes = text.getBytes(StandardCharsets.ISO_8859_1);
    for (int from = 0; from < bytes.length; from += 20) {
      int[] f = five(bytes, from);
      x.feed(f[0], f[1], f[2], f[3], f[4]);
    }
    x.back((20 - bytes.length % 20) % 20);
  }

  static int word(ToneLines x, String text) {
    lay(x, text);
    return x.word();
  }

  static int rules(ToneLines x, String text) {
    lay(x, text);
    return x.rules();
  }

  static ToneLines made(String word, String rules) {
    ToneLines x = new ToneLines();
    boolean told = word(x, word) >= 0 && rules(x, rules) >= 0;
    due("telling '" + word + "' and '" + rules + "'", told, true);
    return x;
  }

  static String spelled(ToneLines x, int n) {
    StringBuilder b = new StringBuilder();
    int size = x.spell(n, ToneLines.NONE);
    for (int i = 0; i < size; i++) b.append((char) x.spell(n, i));
    return b.toString();
  }

  /** What a WORD becomes, and by how many CHANGES and PASSES, by one RULE. */
  static void becomes(String word, String rule, String want, int changes, int passes) {
    ToneLines x = made(word, rule);
    String call = "'" + word + "' by '" + rule + "'";
    due(call, spelled(x, 1), want);
    due(call + ": done(0, 0)", x.done(0, 0), changes);
    due(call + ": done(0, 1)", x.done(0, 1), passes);
  }

  static void end(String name) {
    endSentence();
    String of = sentences > 0 ? sentences + " sentences, " : "";
    System.out.println(name + ": " + of + right + " answers as due, " + wrong + " not");
    if (wrong != 0) System.exit(1);
  }
}
