/** Promises 17 to 22: has, toneAt, syllableAt, linesOf, open, spell. */
public final class AskedTest {
  private static final String WORD = "hlmhl/o-Oo/0:0 1:0 3:2";

  public static void main(String[] args) {
    has();
    toneAt();
    heights();
    syllableAt();
    linesOf();
    open();
    spell();
    derived();
    otherNumbers();
    Check.end("AskedTest");
  }

  private static void has() {
    ToneLines x = Check.made(WORD, "");
    int[] want = {5, 3, 3, 20, 2, 1, 2, 1, 1};
    for (int what = 0; what < want.length; what++) Check.due("has(0, " + what + ")", x.has(0, what), want[what]);
    x = Check.made("lh/oooo/0:0 1:0 1:1 1:3", "");
    int[] other = {2, 4, 4, 0, 4, 0, 2, 3, 2};
    for (int what = 0; what < other.length; what++) Check.due("has(0, " + what + ")", x.has(0, what), other[what]);
    Check.due("no SYLLABLE BARE", Check.made("h/oo/0:0 0:1", "").has(0, 8), 2);
    Check.due("all 12 BARE", Check.made("/oooooooooooo/", "").has(0, 4), 4095);
    Check.due("all 12 FLOAT", Check.made("hhhhhhhhhhhh//", "").has(0, 3), 4095);
  }

  private static void toneAt() {
    ToneLines x = Check.made("hlm/oooo/0:1 0:3 2:3", "");
    int[][] want = {{2, 1, 3, 2, 9}, {0, -2, -2, 0, 3}, {1, 3, 3, 1, 6}};
    for (int t = 0; t < 3; t++) {
      for (int what = 0; what < 5; what++) {
        Check.due("toneAt(0, " + t + ", " + what + ")", x.toneAt(0, t, what), want[t][what]);
      }
      Check.due("toneAt(0, t, 5)", x.toneAt(0, t, 5), -1);
      Check.due("toneAt(0, t, -1)", x.toneAt(0, t, -1), -1);
    }
    for (int t : new int[] {-1, 3, 12, Integer.MAX_VALUE, Integer.MIN_VALUE}) {
      for (int what = -1; what < 7; what++) {
        Check.due("toneAt(0, " + t + ", " + what + ")", x.toneAt(0, t, what), what == 4 ? -100 : -1);
      }
    }
  }

  private static void heights(String tones, int... want) {
    ToneLines x = Check.made(tones + "//", "");
    for (int t = 0; t < want.length; t++) Check.due("HEIGHT " + t + " of " + tones, x.toneAt(0, t, 4), want[t]);
    int falls = x.has(0, 5);
    int last = want[want.length - 1];
    char kind = tones.charAt(tones.length() - 1);
    Check.due("FALLS of " + tones, (kind == 'h' ? 9 : kind == 'm' ? 6 : 3) - falls, last);
  }

  private static void heights() {
    heights("hlmhl", 9, 3, 6, 8, 2);
    heights("lh", 3, 9);
    heights("lhlh", 3, 9, 3, 8);
    heights("hmh", 9, 6, 9);
    heights("hmlmh", 9, 6, 3, 6, 8);
    heights("hlhh", 9, 3, 8, 8);
    heights("hllhlm", 9, 3, 3, 8, 2, 5);
    heights("hlhlhlhlhlhl", 9, 3, 8, 2, 7, 1, 6, 0, 5, -1, 4, -2);
  }

  private static void syllableAt() {
    ToneLines x = Check.made(WORD, "");
    int[][] want = {{0, 0, 2, 0, 1, 7}, {1, 1, 0, -2, -2, 0}, {0, 0, 1, 3, 3, 3}};
    for (int s = 0; s < 3; s++) {
      for (int what = 0; what < 6; what++) {
        Check.due("syllableAt(0, " + s + ", " + what + ")", x.syllableAt(0, s, what), want[s][what]);
      }
      Check.due("syllableAt(0, s, 6)", x.syllableAt(0, s, 6), -1);
      Check.due("syllableAt(0, s, -1)", x.syllableAt(0, s, -1), -1);
    }
    for (int s : new int[] {-1, 3, 12, 32, Integer.MAX_VALUE, Integer.MIN_VALUE}) {
      for (int what = -1; what < 7; what++) Check.due("syllableAt(0, " + s + ")", x.syllableAt(0, s, what), -1);
    }
    x = Check.made("hhhhhhhhhhhl/o/0:0 1:0 2:0 3:0 4:0 5:0 6:0 7:0 8:0 9:0 10:0 11:0", "");
    Check.due("READ of 12 TONES", x.syllableAt(0, 0, 5), (1 << 22) - 1 + (1 << 22));
    Check.due("its TONES", x.syllableAt(0, 0, 2), 12);
  }

  private static void linesOf() {
    ToneLines x = Check.made("hlm/oooooooooooo/0:1 0:3 2:3 2:11", "");
    Check.due("linesOf(0, 0)", x.linesOf(0, 0), 10);
    Check.due("linesOf(0, 1)", x.linesOf(0, 1), 0);
    Check.due("linesOf(0, 2)", x.linesOf(0, 2), 2056);
    for (int t : new int[] {-1, 3, 12, Integer.MAX_VALUE, Integer.MIN_VALUE}) {
      Check.due("linesOf(0, " + t + ")", x.linesOf(0, t), -1);
    }
  }

  private static void open() {
    ToneLines x = Check.made("hlm/ooo/1:1", "");
    int[][] want = {{1, 1, 0}, {1, 0, 1}, {0, 1, 1}};
    for (int t = 0; t < 3; t++) {
      for (int s = 0; s < 3; s++) Check.due("open(0, " + t + ", " + s + ")", x.open(0, t, s), want[t][s]);
    }
    for (int odd : new int[] {-1, 3, 12, 32, Integer.MAX_VALUE, Integer.MIN_VALUE}) {
      Check.due("open(0, " + odd + ", 0)", x.open(0, odd, 0), -1);
      Check.due("open(0, 0, " + odd + ")", x.open(0, 0, odd), -1);
    }
  }

  private static void spell() {
    StringBuilder b = new StringBuilder("lmhlmhlmhlmh/-O-O-O-O-O-O-O-O-O-O-O-O/0:0");
    for (int i = 1; i < 12; i++) b.append(" " + (i - 1) + ":" + i + " " + i + ":" + i);
    String longest = b.toString();
    ToneLines x = Check.made(longest, "");
    Check.due("the longest TEXT", Check.spelled(x, 0), longest);
    Check.due("its LINES", x.has(0, 2), 23);
    Check.due("how many signs", x.spell(0, -1), longest.length());
    Check.due("spell(0, 0)", x.spell(0, 0), 'l');
    Check.due("the last sign", x.spell(0, longest.length() - 1), '1');
    for (int i : new int[] {longest.length(), -2, Integer.MAX_VALUE, Integer.MIN_VALUE}) {
      Check.due("spell(0, " + i + ")", x.spell(0, i), -1);
    }
  }

  private static void derived() {
    ToneLines x = Check.made("hl/oooo/", "link right; spread any right 1; fill mid;");
    Check.due("by 0", Check.spelled(x, 0), "hl/oooo/");
    Check.due("by 1", Check.spelled(x, 1), "hl/oooo/0:0 1:1");
    Check.due("by 2", Check.spelled(x, 2), "hl/oooo/0:0 1:1 1:2");
    Check.due("by 3", Check.spelled(x, 3), "hlm/oooo/0:0 1:1 1:2 2:3");
    Check.due("has(3, 0)", x.has(3, 0), 3);
    Check.due("toneAt(3, 2, 0)", x.toneAt(3, 2, 0), 1);
    Check.due("toneAt(2, 2, 0)", x.toneAt(2, 2, 0), -1);
    Check.due("syllableAt(2, 2, 5)", x.syllableAt(2, 2, 5), 1);
    Check.due("linesOf(2, 1)", x.linesOf(2, 1), 6);
    Check.due("open(2, 0, 1)", x.open(2, 0, 1), 1);
    Check.due("open(2, 0, 2)", x.open(2, 0, 2), 0);
    Check.due("asking changes nothing", x.count(1), 0);
    x.hush(0);
    Check.due("by 3, another WORD", Check.spelled(x, 3), "lmm/oooo/0:0 0:1 1:2 2:3");
    Check.rules(x, "fill high;");
    Check.due("by 1, other RULES", Check.spelled(x, 1), "hhhhl/oooo/0:0 1:1 2:2 3:3");
  }

  private static void otherNumbers() {
    ToneLines x = Check.made(WORD, "link right; fill low;");
    for (int n : new int[] {-1, 3, 8, 9, Integer.MAX_VALUE, Integer.MIN_VALUE}) {
      Check.due("has(" + n + ")", x.has(n, 0), -1);
      Check.due("toneAt(" + n + ")", x.toneAt(n, 0, 0), -1);
      Check.due("toneAt(" + n + ", 99, 4)", x.toneAt(n, 99, 4), -1);
      Check.due("syllableAt(" + n + ")", x.syllableAt(n, 0, 0), -1);
      Check.due("linesOf(" + n + ")", x.linesOf(n, 0), -1);
      Check.due("open(" + n + ")", x.open(n, 0, 0), -1);
      Check.due("spell(" + n + ")", x.spell(n, -1), -1);
    }
    Check.due("has(0, 9)", x.has(0, 9), -1);
    Check.due("has(0, -1)", x.has(0, -1), -1);
  }
}
