import java.util.HashSet;
import java.util.Set;

/** DERIVED, READ, HEIGHT, ORDERS, NEEDED, SOURCES: tests for each sentence that names a boundary case. */
public final class AnswerEdgesTest {
  private static final String ROW = "oooooooooooo";

  public static void main(String[] args) {
    calls();
    derived();
    read();
    height();
    falls();
    alike();
    orders();
    ordersOneByOne();
    needed();
    sources();
    sourcesOneByOne();
    noneAheadOfMinusTwo();
    otherNumbers();
    twelveActs();
    Check.end("AnswerEdgesTest");
  }

  private static void calls() {
    Check.sentence("An object is used for at most 512 calls after it has been made");
    ToneLines x = new ToneLines();
    for (int i = 0; i < 85; i++) {
      boolean all = x.grow(true, false) && x.tone(0, 2) && x.line(0, 0) && x.cut(0, 0) && x.hush(0) && x.shrink();
      Check.due("round " + i, all, true);
    }
    Check.due("call 511", x.count(1), 12);
    Check.due("call 512", x.undo(), 11);
  }

  private static void derived() {
    Check.sentence("DERIVED by n: the WORD as told, RULES 0 .. n less 1 done in their order.");
    ToneLines x = Check.made("h/" + ROW + "/0:0", "shift any right;".repeat(8));
    for (int n = 8; n >= 0; n--) Check.due("FIRST by " + n, x.toneAt(n, 0, 1), n);
    for (int n = 0; n <= 8; n++) Check.due("LAST by " + n, x.toneAt(n, 0, 2), n);
    Check.due("by 9", x.toneAt(9, 0, 1), -1);
    Check.due("by -1", x.toneAt(-1, 0, 1), -1);
    x = Check.made("h/ooo/0:0", "spread any right 1; cut any first;");
    Check.due("by 1", Check.spelled(x, 1), "h/ooo/0:0 0:1");
    Check.due("by 2", Check.spelled(x, 2), "h/ooo/0:1");
    Check.due("by 0, without RULES", Check.spelled(Check.made("h/o/0:0", ""), 0), "h/o/0:0");
  }

  private static void read() {
    Check.sentence("READ: of each SYLLABLE the KINDS of its TONES, in their order.");
    ToneLines x = Check.made("lmhl/oooo/0:0 1:0 2:0 2:1 3:2", "");
    Check.due("l, m, h", x.syllableAt(0, 0, 5), 1 + 4 * 2 + 16 * 3);
    Check.due("h", x.syllableAt(0, 1, 5), 3);
    Check.due("l", x.syllableAt(0, 2, 5), 1);
    Check.due("BARE", x.syllableAt(0, 3, 5), 0);
    x = Check.made("hml/o/0:0 1:0 2:0", "");
    Check.due("h, m, l", x.syllableAt(0, 0, 5), 3 + 4 * 2 + 16);
  }

  private static void heights(String tones, int falls, int... want) {
    ToneLines x = Check.made(tones + "//", "");
    for (int t = 0; t < want.length; t++) Check.due("HEIGHT " + t + " of " + tones, x.toneAt(0, t, 4), want[t]);
    Check.due("FALLS of " + tones, x.has(0, 5), falls);
  }

  private static void height() {
    Check.sentence("HEIGHT of a TONE: HIGH 9, MID 6, LOW 3, less how many FALLS there are up to it");
    heights("h", 0, 9);
    heights("m", 0, 6);
    heights("l", 0, 3);
    // The FALL counts for itself, not for what stands ahead of it.
    heights("hlh", 1, 9, 3, 8);
    heights("hlhml", 1, 9, 3, 8, 5, 2);
    // Below 0, too: at -1 as high as NONE is.
    heights("hlhlhlhlhlhl", 5, 9, 3, 8, 2, 7, 1, 6, 0, 5, -1, 4, -2);
    heights("lhlhlhlhlhlh", 5, 3, 9, 3, 8, 2, 7, 1, 6, 0, 5, -1, 4);
    // LINES don't matter.
    ToneLines x = Check.made("hlh/o/2:0", "");
    Check.due("HEIGHT 2 with a LINE", x.toneAt(0, 2, 4), 8);
  }

  private static void falls() {
    Check.sentence("each HIGH TONE ahead of which a LOW one stands somewhere behind the HIGH one ahead of it (of all TONES)"
        + " is a FALL.");
    heights("", 0);
    heights("hh", 0, 9, 9);
    heights("hmh", 0, 9, 6, 9);
    heights("hmmmmmmmmmmh", 0, 9, 6, 6, 6, 6, 6, 6, 6, 6, 6, 6, 9);
    heights("hlmmmmmmmmmh", 1, 9, 3, 6, 6, 6, 6, 6, 6, 6, 6, 6, 8);
    heights("hmmmmmmmmmlh", 1, 9, 6, 6, 6, 6, 6, 6, 6, 6, 6, 3, 8);
    heights("hllh", 1, 9, 3, 3, 8);
    // The LOW one stands ahead of the HIGH one ahead, too.
    heights("hlhh", 1, 9, 3, 8, 8);
    heights("hlhmh", 1, 9, 3, 8, 5, 8);
    // No HIGH one ahead; none behind.
    heights("lh", 0, 3, 9);
    heights("llmh", 0, 3, 3, 6, 9);
    heights("hl", 0, 9, 3);
  }

  private static void alike() {
    Check.sentence("READINGS are alike, if all SYLLABLES are READ alike (SYLLABLES are the same ones).");
    // TONES that FLOAT are not READ.
    Check.due("a TONE that FLOATS drops", Check.made("hl/o/0:0", "drop low;").needed(), 0);
    Check.due("it is turned", Check.made("hh/o/0:0", "turn high to low;").needed(), 0);
    // One TONE with two LINES is READ as two of its KIND with one each; but two at one SYLLABLE are not one.
    Check.due("two are one", Check.made("hh/oo/0:0 1:1", "fuse high;").needed(), 0);
    Check.due("two of one SYLLABLE are one", Check.made("hh/o/0:0 1:0", "fuse high;").needed(), 1);
    // Another KIND, another SYLLABLE, the first, the last one.
    Check.due("another KIND", Check.made("hh/oo/0:0 1:1", "turn high to low;").needed(), 1);
    Check.due("another SYLLABLE", Check.made("h/oo/0:0", "shift high right;").needed(), 1);
    Check.due("the last of 12", Check.made("h/" + ROW + "/0:10", "spread high right 1;").needed(), 1);
    Check.due("the first of 12", Check.made("h/" + ROW + "/0:1", "spread high left 1;").needed(), 1);
    // The same KINDS in all, at others.
    Check.due("l from 0 to 1", Check.made("hl/oo/0:0 1:0", "shift low right;").needed(), 1);
    Check.due("no SYLLABLES", Check.made("hh//", "fuse high;").needed(), 0);
    // As many TONES of one KIND: all at SYLLABLE 1, but without cut the last at 2 and all others at 0.
    String rules = "drop low; cut any last if not end; shift any left; dock any right;";
    for (int tones = 2; tones <= 12; tones++) {
      String word = "h".repeat(tones) + "/ooo/" + (tones - 2) + ":1 " + (tones - 1) + ":2";
      ToneLines x = Check.made(word, rules);
      Check.due("TONES of SYLLABLE 1", x.syllableAt(4, 1, 2), tones);
      Check.due("needed() of " + word, x.needed(), 14);
    }
  }

  private static void orders(String word, String rules, int unlike, int same) {
    ToneLines x = Check.made(word, rules);
    Check.due("orders(0) of '" + word + "', '" + rules + "'", x.orders(0), unlike);
    Check.due("orders(1) of '" + word + "', '" + rules + "'", x.orders(1), same);
  }

  private static void orders() {
    Check.sentence("ORDERS: all orders of RULES (of 6 at most).");
    int all = 1;
    for (int many = 0; many <= 6; many++) {
      all *= Math.max(1, many);
      orders("h/o/", "drop low;".repeat(many), 1, all);
    }
    orders("h/o/", "drop low;".repeat(7), -2, -2);
    orders("h/o/", "drop low;".repeat(8), -2, -2);
    // The first of the six that fills is READ: each is the first in a sixth of all.
    orders("/o/", "fill low;fill low;fill mid;fill mid;fill high;fill high;", 3, 240);
    orders("/o/", "fill high;fill low;fill low;fill low;fill low;fill low;", 2, 120);
    // As they stand the last is the one that counts: cut is behind fill in half of all.
    orders("/o/", "fill low;drop mid;drop mid;drop mid;drop mid;cut low first;", 2, 360);
    orders("/o/", "cut low first;drop mid;drop mid;drop mid;drop mid;fill low;", 2, 360);
  }

  /** What the WORD is READ as, by the RULES told. */
  private static String reading(String word, String rules, int many) {
    ToneLines x = Check.made(word, rules);
    StringBuilder b = new StringBuilder();
    for (int s = 0; s < x.has(0, 1); s++) b.append(x.syllableAt(many, s, 5)).append(' ');
    return b.toString();
  }

  private static void permute(String[] rules, int from, String word, Set<String> unlike, int[] same, String due) {
    if (from == rules.length) {
      String read = reading(word, String.join("", rules), rules.length);
      unlike.add(read);
      if (read.equals(due)) same[0]++;
      return;
    }
    for (int i = from; i < rules.length; i++) {
      String[] other = rules.clone();
      String held = other[from];
      other[from] = other[i];
      other[i] = held;
      permute(other, from + 1, word, unlike, same, due);
    }
  }

  /** The same, each order told as RULES of its own. */
  private static void ordersOneByOne() {
    String[][] some = {
      {"hlh/oooooo/0:1 2:4", "shift any right;", "spread low right 2;", "dock low left;", "fill mid;", "fuse any;"},
      {"lmh/oooo/", "link right;", "link left;", "spread any right 1;", "cut any first;", "fill low;", "drop any;"},
      {"hhl/o-ooO/1:2", "turn any to mid;", "link right;", "spread any left 9;", "flat 1 last;", "dock any right;",
          "again shift high right;"},
      {"hlhlhl/oooooooo/0:0 1:2 3:3 5:6", "spread any right 1;", "spread any left 1;", "shift high right;",
          "cut low last if not end;", "fill mid;", "turn low to high;"},
    };
    for (String[] one : some) {
      String[] rules = java.util.Arrays.copyOfRange(one, 1, one.length);
      String whole = String.join("", rules);
      Set<String> unlike = new HashSet<>();
      int[] same = new int[1];
      permute(rules, 0, one[0], unlike, same, reading(one[0], whole, rules.length));
      orders(one[0], whole, unlike.size(), same[0]);
    }
  }

  private static void needed() {
    Check.sentence("NEEDED is a RULE without which the WORD by all others isn't READ as by all.");
    Check.due("no RULES", Check.made("h/o/", "").needed(), 0);
    Check.due("the one", Check.made("h/o/", "link right;").needed(), 1);
    Check.due("one that does nothing", Check.made("h/o/0:0", "link right;").needed(), 0);
    Check.due("either of two", Check.made("h/o/", "link right;link left;").needed(), 0);
    // The first CHANGES what the second takes back: without it that one does nothing.
    Check.due("what comes goes again", Check.made("h/oo/0:0", "shift high right;shift high left;").needed(), 2);
    Check.due("the first of 8", Check.made("h/o/", "link right;" + "drop low;".repeat(7)).needed(), 1);
    Check.due("the last of 8", Check.made("h/o/", "drop low;".repeat(7) + "link right;").needed(), 128);
    Check.due("all 8", Check.made("h/" + ROW + "/0:0", "shift any right;".repeat(8)).needed(), 255);
  }

  private static void sources(String word, String rules, int n, int many, int first) {
    ToneLines x = Check.made(word, rules);
    Check.due("sources(" + n + ") of '" + word + "', '" + rules + "'", x.sources(n), many);
    Check.due("source(" + n + ") of '" + word + "', '" + rules + "'", x.source(n), first);
  }

  private static void sources() {
    Check.sentence("SOURCES by n (0 .. 6): all rows of n KINDS, without LINES, SYLLABLES as told, RULES done: READ as the"
        + " WORD with all RULES done.");
    int all = 1;
    for (int n = 0; n <= 6; n++) {
      sources("h/o/", "", n, all, 0);
      sources("h/o/0:0", "", n, 0, -2);
      all *= 3;
    }
    for (int n : new int[] {-1, 7, 8, 31, 32, Integer.MAX_VALUE, Integer.MIN_VALUE}) sources("h/o/", "", n, -1, -1);
    // Without LINES: the WORD's own do not help.
    sources("h/oo/0:0", "spread high right 1;", 1, 0, -2);
    // SYLLABLES as told: an EDGE, a HEAVY one.
    sources("h/oo/", "link right;spread any right 1;", 1, 1, 2);
    sources("h/o-o/0:0 0:1", "link right;spread any right 1;", 1, 0, -2);
    sources("h/O/", "link right;cut any first if heavy;", 1, 3, 0);
    sources("h/o/", "link right;cut any first if heavy;", 1, 1, 2);
    // No row at all is one of 0 KINDS.
    sources("h/o/", "link right;", 0, 0, -2);
    sources("/o/", "fill high;", 0, 1, 0);
    // More TONES than a row may have.
    sources("hhhhhhhh/oooooooo/", "link right;", 6, 0, -2);
    sources("hhhhhhhh/oooooooo/", "link right;fill high;", 6, 1, 728);
  }

  /** The same, each row told as a WORD of its own. */
  private static void sourcesOneByOne() {
    String[][] some = {
      {"hl/oooo/", "link right;spread any right 1;fill low;"},
      {"lhm/ooo/1:1", "link left;fuse any;again spread high left 1;fill mid;"},
      {"hh/o-Oo/", "turn any to low;link right;dock any left;flat 2 first;"},
    };
    for (String[] one : some) {
      int rules = one[1].split(";").length;
      String due = reading(one[0], one[1], rules);
      String rest = one[0].substring(one[0].indexOf('/'), one[0].lastIndexOf('/') + 1);
      int rows = 1;
      for (int n = 0; n <= 6; n++) {
        int many = 0;
        int first = -2;
        for (int number = rows - 1; number >= 0; number--) {
          StringBuilder tones = new StringBuilder();
          for (int i = 0, over = number; i < n; i++, over /= 3) tones.insert(0, "lmh".charAt(over % 3));
          if (reading(tones + rest, one[1], rules).equals(due)) {
            many++;
            first = number;
          }
        }
        sources(one[0], one[1], n, many, first);
        rows *= 3;
      }
    }
  }

  private static void noneAheadOfMinusTwo() {
    Check.sentence("Where NONE and -2 could both be told, it is NONE.");
    ToneLines x = Check.made("h/o/", "drop low;".repeat(7));
    for (int what : new int[] {-1, 2, 3, Integer.MAX_VALUE, Integer.MIN_VALUE}) {
      Check.due("orders(" + what + ") of 7 RULES", x.orders(what), -1);
    }
    Check.due("orders(0) of 7 RULES", x.orders(0), -2);
    Check.due("FIRST of what FLOATS", x.toneAt(0, 0, 1), -2);
    Check.due("by no such n", x.toneAt(8, 0, 1), -1);
    Check.due("of no such TONE", x.toneAt(0, 1, 1), -1);
    Check.due("first TONE of what is BARE", x.syllableAt(0, 0, 3), -2);
    Check.due("by no such n", x.syllableAt(8, 0, 3), -1);
    Check.due("of no such SYLLABLE", x.syllableAt(0, 1, 3), -1);
    Check.due("a RULE without a SIDE", x.rule(0, 4), -2);
    Check.due("no such RULE", x.rule(7, 4), -1);
    x = Check.made("h/o/0:0", "");
    Check.due("source(6) where none is", x.source(6), -2);
    Check.due("source(7) where none is", x.source(7), -1);
    Check.due("source(-1) where none is", x.source(-1), -1);
  }

  private static void otherNumbers() {
    Check.sentence("asked of the WORD DERIVED by n (0 to as many RULES as there are): NONE for other n, ahead of all.");
    ToneLines x = Check.made("h/o/", "drop low; link right;");
    for (int n : new int[] {-1, 3, 8, 9, Integer.MAX_VALUE, Integer.MIN_VALUE}) {
      for (int what = -1; what <= 9; what++) {
        Check.due("has(" + n + ", " + what + ")", x.has(n, what), -1);
        for (int at = -1; at <= 1; at++) {
          Check.due("toneAt(" + n + ", " + at + ", " + what + ")", x.toneAt(n, at, what), -1);
          Check.due("syllableAt(" + n + ", " + at + ", " + what + ")", x.syllableAt(n, at, what), -1);
        }
      }
      Check.due("linesOf(" + n + ", 0)", x.linesOf(n, 0), -1);
      Check.due("open(" + n + ", 0, 0)", x.open(n, 0, 0), -1);
      Check.due("spell(" + n + ", -1)", x.spell(n, -1), -1);
      Check.due("spell(" + n + ", 0)", x.spell(n, 0), -1);
    }
    for (int n = 0; n <= 2; n++) {
      Check.due("has(" + n + ", 0)", x.has(n, 0), 1);
      Check.due("toneAt(" + n + ", 0, 0)", x.toneAt(n, 0, 0), 2);
      Check.due("syllableAt(" + n + ", 0, 2)", x.syllableAt(n, 0, 2), n / 2);
      Check.due("linesOf(" + n + ", 0)", x.linesOf(n, 0), n / 2);
      Check.due("open(" + n + ", 0, 0)", x.open(n, 0, 0), 1 - n / 2);
      Check.due("spell(" + n + ", -1)", x.spell(n, -1), 4 + n / 2 * 3);
    }
  }

  private static void twelveActs() {
    Check.sentence("by hand: each an ACT, of which the latest 12 can be undone.");
    for (int acts = 0; acts <= 26; acts++) {
      ToneLines x = new ToneLines();
      for (int i = 0; i < acts; i++) Check.due("ACT " + i, i % 2 == 0 ? x.tone(0, i % 3) : x.hush(0), true);
      int kept = Math.min(12, acts);
      Check.due("count(1) of " + acts, x.count(1), kept);
      for (int i = kept - 1; i >= 0; i--) Check.due("undo()", x.undo(), i);
      Check.due("undo() of none", x.undo(), -1);
      // Behind an even number of ACTS there is no TONE, behind an odd one there is one.
      Check.due("its TONES", x.has(0, 0), (acts - kept) % 2);
    }
  }
}
