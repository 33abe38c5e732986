/** The WORD and its TEXT: tests for each sentence that names a boundary case. */
public final class WordEdgesTest {
  private static final String TONES = "hhhhhhhhhhhh";
  private static final String ROW = "oooooooooooo";

  public static void main(String[] args) {
    atMostTwelveTones();
    kinds();
    atMostTwelveSyllables();
    heavyAndEdge();
    crossing();
    corners();
    floatsAndBare();
    open();
    firstAndLast();
    numbersToldAnew();
    signs();
    lineSigns();
    blanks();
    oneBlankAtLeast();
    thirteenth();
    edgeWithoutSyllable();
    noSuchNumber();
    thirdDigit();
    lineThatCantBe();
    endsTooEarly();
    Check.end("WordEdgesTest");
  }

  private static int told(String text) { return Check.word(new ToneLines(), text); }

  private static void fault(String text, int at) { Check.due("word() of '" + text + "'", told(text), -4 - at); }

  private static void tones(String text, int want) { Check.due("word() of '" + text + "'", told(text), want); }

  private static void same(String text, String want) {
    ToneLines x = new ToneLines();
    Check.due("word() of '" + text + "'", Check.word(x, text), want.indexOf('/'));
    Check.due("'" + text + "' spelled", Check.spelled(x, 0), want);
  }

  /** Of all 256 bytes just these can stand behind a text; for each other one it is the FAULT. */
  private static void stand(String text, String these, String elsewhere) {
    for (int sign = 0; sign < 256; sign++) {
      if (elsewhere.indexOf(sign) >= 0) continue;
      boolean stands = told(text + (char) sign) != -4 - text.length();
      Check.due("byte " + sign + " behind '" + text + "' stands", stands, these.indexOf(sign) >= 0);
    }
  }

  private static void atMostTwelveTones() {
    Check.sentence("TONES 0, 1 .. (at most 12)");
    tones("//", 0);
    tones(TONES + "//", 12);
    fault(TONES + "h//", 12);
    ToneLines x = Check.made(TONES.substring(1) + "//", "");
    Check.due("a 12th TONE by hand", x.tone(11, 0), true);
    Check.due("toneAt(0, 11, 0)", x.toneAt(0, 11, 0), 0);
    Check.due("toneAt(0, 12, 0)", x.toneAt(0, 12, 0), -1);
    Check.due("a 13th TONE by hand", x.tone(12, 0), false);
    Check.due("has(0, 0)", x.has(0, 0), 12);
    Check.becomes(TONES.substring(1) + "/oo/", "fill low;", "l" + TONES.substring(1) + "/oo/0:0", 2, 1);
  }

  private static void kinds() {
    Check.sentence("each of a KIND: 0 LOW, 1 MID, 2 HIGH");
    ToneLines x = Check.made("lmh//", "");
    for (int k = 0; k < 3; k++) {
      Check.due("toneAt(0, " + k + ", 0)", x.toneAt(0, k, 0), k);
      Check.due("tone(0, " + k + ")", new ToneLines().tone(0, k), true);
      Check.due("turn(" + (k + 1) % 3 + ", " + k + ")", x.turn((k + 1) % 3, k), (k + 1) % 3);
      x.undo();
    }
    for (int k : new int[] {-1, 3, 4, Integer.MAX_VALUE, Integer.MIN_VALUE}) {
      Check.due("tone(0, " + k + ")", x.tone(0, k), false);
      Check.due("turn(0, " + k + ")", x.turn(0, k), -1);
    }
    Check.due("the WORD", Check.spelled(x, 0), "lmh//");
  }

  private static void atMostTwelveSyllables() {
    Check.sentence("SYLLABLES 0, 1 .. (at most 12)");
    tones("/" + ROW + "/", 0);
    fault("/" + ROW + "o/", 13);
    ToneLines x = Check.made("/" + ROW.substring(1) + "/", "");
    Check.due("a 12th SYLLABLE by hand", x.grow(true, true), true);
    Check.due("syllableAt(0, 11, 0)", x.syllableAt(0, 11, 0), 1);
    Check.due("syllableAt(0, 12, 0)", x.syllableAt(0, 12, 0), -1);
    Check.due("a 13th SYLLABLE by hand", x.grow(true, true), false);
    Check.due("has(0, 1)", x.has(0, 1), 12);
  }

  private static void heavyAndEdge() {
    Check.sentence("each HEAVY or not, with an EDGE ahead of it or not");
    ToneLines x = Check.made("/-o-OOo/", "");
    int[][] want = {{0, 1}, {1, 1}, {1, 0}, {0, 0}};
    for (int s = 0; s < 4; s++) {
      Check.due("syllableAt(0, " + s + ", 0)", x.syllableAt(0, s, 0), want[s][0]);
      Check.due("syllableAt(0, " + s + ", 1)", x.syllableAt(0, s, 1), want[s][1]);
    }
  }

  private static boolean cross(int t, int s, int u, int r) { return t < u && s > r || t > u && s < r; }

  private static void crossing() {
    Check.sentence("Of two LINES that of the greater TONE has no lesser SYLLABLE: else they CROSS, which never is.");
    for (int first = 0; first < 9; first++) {
      for (int second = 0; second < 9; second++) {
        int t = first / 3;
        int s = first % 3;
        int u = second / 3;
        int r = second % 3;
        boolean may = first != second && !cross(t, s, u, r);
        String lines = t + ":" + s + " " + u + ":" + r;
        ToneLines x = Check.made("lmh/ooo/" + t + ":" + s, "");
        Check.due(lines + " by hand", x.line(u, r), may);
        Check.due(lines + " in a TEXT", told("lmh/ooo/" + lines), may ? 3 : -4 - 12);
      }
    }
  }

  /** The same at the last places of the longest rows. */
  private static void corners() {
    ToneLines x = Check.made(TONES + "/" + ROW + "/", "");
    Check.due("line(0, 11)", x.line(0, 11), true);
    Check.due("line(11, 10)", x.line(11, 10), false);
    Check.due("line(1, 0)", x.line(1, 0), false);
    Check.due("line(11, 11)", x.line(11, 11), true);
    Check.due("line(10, 10)", x.line(10, 10), false);
    Check.due("line(10, 11)", x.line(10, 11), true);
    Check.due("line(0, 0)", x.line(0, 0), true);
    Check.due("its LINES", x.linesOf(0, 0), 2049);
    x = Check.made(TONES + "/" + ROW + "/11:0", "");
    Check.due("line(0, 1)", x.line(0, 1), false);
    Check.due("line(10, 11)", x.line(10, 11), false);
    Check.due("line(0, 0)", x.line(0, 0), true);
    Check.due("line(11, 11)", x.line(11, 11), true);
  }

  private static void floatsAndBare() {
    Check.sentence("A TONE without a LINE FLOATS, a SYLLABLE without one is BARE.");
    ToneLines x = Check.made("lmh/ooo/", "");
    Check.due("all FLOAT", x.has(0, 3), 7);
    Check.due("all BARE", x.has(0, 4), 7);
    x.line(0, 2);
    Check.due("TONE 0 does not", x.has(0, 3), 6);
    Check.due("SYLLABLE 2 is not", x.has(0, 4), 3);
    x.line(0, 1);
    x.cut(0, 2);
    Check.due("one LINE is left to TONE 0", x.has(0, 3), 6);
    Check.due("none to SYLLABLE 2", x.has(0, 4), 5);
    x.cut(0, 1);
    Check.due("TONE 0 FLOATS again", x.has(0, 3), 7);
    Check.due("no TONES", Check.made("/o/", "").has(0, 3), 0);
    Check.due("no SYLLABLES", Check.made("h//", "").has(0, 4), 0);
  }

  private static void open() {
    Check.sentence("A TONE and a SYLLABLE are OPEN, if there is no such LINE, and it would CROSS none.");
    for (int first = 0; first < 16; first++) {
      ToneLines x = Check.made("lmhl/oooo/" + first / 4 + ":" + first % 4, "");
      for (int t = 0; t < 4; t++) {
        for (int s = 0; s < 4; s++) {
          boolean open = t * 4 + s != first && !cross(first / 4, first % 4, t, s);
          Check.due("open(0, " + t + ", " + s + ") with " + first / 4 + ":" + first % 4, x.open(0, t, s), open ? 1 : 0);
        }
      }
    }
  }

  private static void firstAndLast() {
    Check.sentence("FIRST, LAST of a TONE: the least, the greatest SYLLABLE it has a LINE to.");
    ToneLines x = Check.made("lmh/" + ROW + "/0:0 0:5 0:11 2:11", "");
    int[][] want = {{0, 11}, {-2, -2}, {11, 11}};
    for (int t = 0; t < 3; t++) {
      Check.due("FIRST of " + t, x.toneAt(0, t, 1), want[t][0]);
      Check.due("LAST of " + t, x.toneAt(0, t, 2), want[t][1]);
    }
  }

  private static void numbersToldAnew() {
    Check.sentence("Numbers are told anew as TONES come and go; LINES stay with theirs.");
    ToneLines x = Check.made("lmh/ooo/0:0 1:1 2:2", "");
    x.tone(0, 2);
    Check.due("one ahead of all", Check.spelled(x, 0), "hlmh/ooo/1:0 2:1 3:2");
    x.tone(2, 2);
    Check.due("one between", Check.spelled(x, 0), "hlhmh/ooo/1:0 3:1 4:2");
    x.hush(1);
    Check.due("one with a LINE gone", Check.spelled(x, 0), "hhmh/ooo/2:1 3:2");
    x.hush(0);
    Check.due("the first gone", Check.spelled(x, 0), "hmh/ooo/1:1 2:2");
    Check.becomes("lmlh/oo/1:0 3:1", "drop low;", "mh/oo/0:0 1:1", 2, 1);
    Check.becomes("hhmh/ooo/0:0 2:1 3:2", "fuse high;", "hmh/ooo/0:0 1:1 2:2", 1, 1);
    Check.becomes("mh/ooo/0:1 1:2", "fill low;", "lmh/ooo/0:0 1:1 2:2", 2, 1);
  }

  private static void signs() {
    Check.sentence("TONES as l, m, h; / ; SYLLABLES as o, O (HEAVY), - ahead of one that has an EDGE; / ;");
    same("lmh/oO-o-O/", "lmh/oO-o-O/");
    same("//", "//");
    stand("", "lmh/ ", "");
    stand("h", "lmh/ ", "");
    stand("h ", "lmh/ ", "");
    stand("h/", "oO-/ ", "");
    stand("h/o", "oO-/ ", "");
    stand("h/o-O ", "oO-/ ", "");
    stand("h/o-", "oO ", "");
  }

  private static void lineSigns() {
    Check.sentence("LINES, each a TONE : a SYLLABLE (digits, one or two), with blanks between.");
    same("hh/oo/0:0", "hh/oo/0:0");
    same("hh/oo/00:01 1:01", "hh/oo/0:1 1:1");
    same(TONES + "/" + ROW + "/9:9 10:10 11:11", TONES + "/" + ROW + "/9:9 10:10 11:11");
    stand("hh/oo/", "01 ", "");
    // 02 .. 09 are numbers of no such one: their FAULT is at the 0.
    stand("hh/oo/0", "01: ", "23456789");
    stand("hh/oo/00", ": ", "");
    stand("hh/oo/0 ", ": ", "");
    stand("hh/oo/0:", "01 ", "");
    stand("hh/oo/0:0", "01 ", "23456789");
    stand("hh/oo/0:00", " ", "");
    stand("hh/oo/0:0 ", "01 ", "");
  }

  private static void blanks() {
    Check.sentence("Blanks (32) where one likes besides, but not within digits");
    same("  l  m  h  /  o  -  O  /  0  :  0  2  :  1  ", "lmh/o-O/0:0 2:1");
    fault(TONES + "/o/1 1:0", 17);
    // Not SYLLABLE 11, but the number of another LINE's TONE.
    fault("h/" + ROW + "/0:1 1", 19);
    fault("hh/" + ROW + "/0:1 1", 21);
    for (int sign : new int[] {0, 9, 10, 13, 31, 33, 95, 160, 255}) {
      fault((char) sign + "l/o/0:0", 0);
      fault("l" + (char) sign + "/o/0:0", 1);
      fault("l/" + (char) sign + "o/0:0", 2);
      fault("l/o/" + (char) sign + "0:0", 4);
      fault("l/o/0" + (char) sign + ":0", 5);
      fault("l/o/0:" + (char) sign + "0", 6);
      fault("l/o/0:0" + (char) sign, 7);
    }
  }

  private static void oneBlankAtLeast() {
    Check.sentence("between a number and the next LINE's one at least");
    same("hh/oo/0:0 1:1", "hh/oo/0:0 1:1");
    same("hh/oo/0:0  1:1", "hh/oo/0:0 1:1");
    same("hh/oo/0:00 1:01", "hh/oo/0:0 1:1");
    fault("hh/oo/0:001:1", 10);
    fault("hh/oo/0:01:1", 10);
  }

  private static void thirteenth() {
    Check.sentence("a 13th TONE, SYLLABLE (its o or O, with a - ahead, too)");
    stand(TONES, "/ ", "");
    stand(TONES + " ", "/ ", "");
    stand("/" + ROW, "-/ ", "");
    fault("/" + ROW + "o/", 13);
    fault("/" + ROW + "O/", 13);
    fault("/" + ROW + "-o/", 14);
    fault("/" + ROW + "-O/", 14);
    fault("/" + ROW + " -  o/", 17);
    for (String tone : new String[] {"l", "m", "h"}) fault(TONES + tone + "//", 12);
    fault("lmhlmhlmhlmh l/o/", 13);
  }

  private static void edgeWithoutSyllable() {
    Check.sentence("a - not ahead of a SYLLABLE at what stands there instead");
    fault("/-/", 2);
    fault("/--o/", 2);
    fault("/- /", 3);
    fault("/-  -o/", 4);
    fault("/o-x", 3);
    fault("/o-0:0", 3);
    fault("/" + ROW + "-/", 14);
    fault("/" + ROW + "--", 14);
    fault("/o-", 3);
    fault("/o-  ", 5);
  }

  private static void noSuchNumber() {
    Check.sentence("a number (two digits at most, 0s ahead, too) of no such one at its first byte");
    fault("hh/ooo/2:0", 7);
    fault("hh/ooo/02:0", 7);
    fault("hh/ooo/ 2", 8);
    fault("hh/ooo/0:3", 9);
    fault("hh/ooo/0:03", 9);
    fault("hh/ooo/0: 03", 10);
    fault("hh/ooo/12:0", 7);
    fault("hh/ooo/0:20", 9);
    fault("hh/ooo/99:0", 7);
    fault("hh/ooo/200:0", 7);
    fault("hh/ooo/022:0", 7);
    fault("hh/ooo/0:300", 9);
    fault("hh/ooo/0:0 0:3", 13);
    fault(TONES + "/" + ROW + "/12:0", 26);
    fault(TONES + "/" + ROW + "/0:12", 28);
    same(TONES + "/" + ROW + "/11:11", TONES + "/" + ROW + "/11:11");
    fault("/o/0:0", 3);
    fault("/o/00:0", 3);
    fault("h//0:0", 5);
    fault("h//0:00", 5);
  }

  private static void thirdDigit() {
    Check.sentence("a third digit behind one that is, at itself");
    fault("hh/ooo/000:0", 9);
    fault("hh/ooo/001:0", 9);
    fault("hh/ooo/010:0", 9);
    fault("hh/ooo/0:000", 11);
    fault("hh/ooo/0:020", 11);
    fault("hh/ooo/0:002", 11);
    fault("hh/ooo/1 :  0020 ", 14);
    fault(TONES + "/" + ROW + "/110:0", 28);
    fault(TONES + "/" + ROW + "/11:110", 31);
  }

  private static void lineThatCantBe() {
    Check.sentence("a LINE that is there or CROSSES one at its TONE's first byte");
    fault("hh/ooo/0:0 0:0", 11);
    fault("hh/ooo/0:0 00:00", 11);
    fault("hh/ooo/0:0  0 : 0 ", 12);
    fault("hh/ooo/0:1 1:0", 11);
    fault("hh/ooo/1:1   00:02 1:2", 13);
    fault("hh/ooo/0:0 1:1 1:2 0:2", 19);
    same("hh/ooo/1:1 0:1", "hh/ooo/0:1 1:1");
    // What comes ahead of the LINE's end is a FAULT ahead of it.
    fault("hh/ooo/0:1 1:", 13);
    fault("hh/ooo/0:1 1:3", 13);
    fault("hh/ooo/0:1 1x0", 12);
  }

  private static void endsTooEarly() {
    Check.sentence("its length, if it ends too early");
    String text = "h l/o -O/0 : 1";
    for (int length = 0; length < text.length(); length++) {
      // Behind the second / no LINE need stand.
      if (length == 9) tones(text.substring(0, length), 2);
      else fault(text.substring(0, length), length);
    }
    tones(text, 2);
    fault(" ".repeat(300), 300);
    fault("h/o/" + " ".repeat(295) + "0", 300);
    fault("h/o/" + " ".repeat(295) + "1", 299);
    fault(" ".repeat(299) + "x", 299);
    tones("h/o/" + " ".repeat(293) + "0:0", 1);
  }
}
