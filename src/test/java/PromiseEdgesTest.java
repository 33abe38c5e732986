/** Promises 1 to 30: tests for each sentence that names a boundary case. */
public final class PromiseEdgesTest {
  private static final String TONES = "hhhhhhhhhhhh";
  private static final String ROW = "oooooooooooo";
  private static final int MOST = Integer.MAX_VALUE;
  private static final int LEAST = Integer.MIN_VALUE;
  /** Numbers of no TONE, no SYLLABLE: among them those that a shift takes for 0, 1. */
  private static final int[] NO_SUCH = {-1, -2, -31, -32, -33, 12, 13, 31, 32, 33, 64, 256, 1 << 16, MOST, LEAST, LEAST + 1};

  public static void main(String[] args) {
    aNewObject();
    feed();
    feedFull();
    back();
    word();
    rules();
    line();
    cut();
    tone();
    hush();
    turn();
    grow();
    shrink();
    mark();
    does();
    derive();
    undo();
    has();
    toneAt();
    syllableAt();
    linesOf();
    open();
    spell();
    rule();
    done();
    exchanged();
    needed();
    orders();
    sources();
    source();
    count();
    Check.end("PromiseEdgesTest");
  }

  private static void is(ToneLines x, String word, int acts) {
    Check.due("the WORD", Check.spelled(x, 0), word);
    Check.due("count(1) of " + word, x.count(1), acts);
  }

  private static void aNewObject() {
    Check.sentence("`ToneLines()`: No TONES, SYLLABLES, no RULES.");
    ToneLines x = new ToneLines();
    Check.due("TONES", x.has(0, 0), 0);
    Check.due("SYLLABLES", x.has(0, 1), 0);
    Check.due("RULES", x.count(0), 0);
    Check.due("its tape", x.count(2), 0);
    is(x, "//", 0);
    // Each object is its own.
    ToneLines other = new ToneLines();
    x.tone(0, 0);
    x.feed(0, 0, 0, 0, 0);
    is(other, "//", 0);
    Check.due("the other's tape", other.count(2), 0);
  }

  private static void feed() {
    Check.sentence("Twenty bytes, the highest of a first, come behind the tape: how many it has.");
    ToneLines x = new ToneLines();
    Check.due("feed", x.feed(0x6C6D682F, 0x6F4F2D6F, 0x2F303A30, 0x20313A31, 0x20323A32), 20);
    Check.due("word()", x.word(), 3);
    is(x, "lmh/oO-o/0:0 1:1 2:2", 0);
    // Two feeds in a row.
    Check.due("feed", x.feed(0x68686868, 0x68686868, 0x68686868, 0x2F6F6F6F, 0x6F6F6F6F), 20);
    Check.due("feed", x.feed(0x6F6F6F6F, 0x6F2F3131, 0x3A313120, 0x20202020, 0x20202020), 40);
    Check.due("word()", x.word(), 12);
    is(x, TONES + "/" + ROW + "/11:11", 0);
    // Bytes over 127, at each of the four places of each number.
    for (int place = 0; place < 20; place++) {
      int[] five = {0x20202020, 0x20202020, 0x20202020, 0x20202020, 0x20202020};
      five[place / 4] ^= 0xE0 << 24 - place % 4 * 8;
      x.feed(five[0], five[1], five[2], five[3], five[4]);
      Check.due("word() with byte 192 at " + place, x.word(), -4 - place);
    }
    x.feed(-1, -1, -1, -1, -1);
    Check.due("word() of bytes 255", x.word(), -4);
    x.feed(0, 0, 0, 0, 0);
    Check.due("rules() of bytes 0", x.rules(), -4);
  }

  private static void feedFull() {
    Check.sentence("NONE, and nothing comes, if it would have more than 300.");
    ToneLines x = new ToneLines();
    for (int i = 1; i <= 15; i++) Check.due("feed " + i, blanks(x), 20 * i);
    for (int over = 0; over <= 20; over++) {
      Check.due("feed to " + (320 - over), blanks(x), over < 20 ? -1 : 300);
      Check.due("count(2)", x.count(2), over < 20 ? 300 - over : 300);
      x.back(over < 20 ? 1 : 0);
    }
    Check.due("rules() of 300 blanks", x.rules(), 0);
    Check.due("feed behind it", blanks(x), 20);
  }

  private static int blanks(ToneLines x) { return x.feed(0x20202020, 0x20202020, 0x20202020, 0x20202020, 0x20202020); }

  private static void back() {
    Check.sentence("The last n bytes of the tape go: how many it has. NONE, and nothing goes, if it has not so many, or n is"
        + " below 0.");
    ToneLines x = new ToneLines();
    Check.due("back(0) of none", x.back(0), 0);
    Check.due("back(1) of none", x.back(1), -1);
    Check.lay(x, "hl/oo/0:0xyz");
    Check.due("back(-1)", x.back(-1), -1);
    Check.due("back(least)", x.back(LEAST), -1);
    Check.due("back(13)", x.back(13), -1);
    Check.due("back(most)", x.back(MOST), -1);
    Check.due("count(2)", x.count(2), 12);
    Check.due("back(0)", x.back(0), 12);
    Check.due("back(3)", x.back(3), 9);
    Check.due("word(): the last went", x.word(), 2);
    Check.lay(x, "h//");
    Check.due("back(3), all", x.back(3), 0);
    Check.due("word() of none", x.word(), -4);
  }

  private static void word() {
    Check.sentence("The tape (empty then, behind a FAULT, too) is the TEXT of the WORD: how many TONES (nothing can be undone"
        + " then); -4 less its FAULT (the WORD stays).");
    ToneLines x = Check.made("lm/oO/0:0", "link right;");
    x.turn(0, 2);
    x.grow(false, false);
    Check.due("a FAULT at 0", Check.word(x, "x"), -4);
    Check.due("a FAULT at the length", Check.word(x, "h/o/0:0 0"), -13);
    Check.due("a FAULT in the last LINE", Check.word(x, "hh/oo/0:1 1:0"), -14);
    Check.due("the tape", x.count(2), 0);
    is(x, "hm/oOo/0:0", 2);
    Check.due("undo() behind a FAULT", x.undo(), 1);
    Check.due("a WORD", Check.word(x, "//"), 0);
    Check.due("the tape", x.count(2), 0);
    is(x, "//", 0);
    Check.due("undo() behind a WORD", x.undo(), -1);
    Check.due("RULES stay", x.count(0), 1);
    Check.due("12 TONES", Check.word(x, TONES + "//"), 12);
    Check.due("word() of none", x.word(), -4);
    is(x, TONES + "//", 0);
  }

  private static void rules() {
    Check.sentence("The tape (empty then, behind a FAULT, too) is the TEXT of the RULES: how many; -4 less its FAULT (they"
        + " stay).");
    ToneLines x = Check.made("h/o/", "link right; drop low;");
    x.turn(0, 1);
    Check.due("a FAULT at 0", Check.rules(x, "x"), -4);
    Check.due("a FAULT at the length", Check.rules(x, "fill low; fill low"), -22);
    Check.due("a FAULT behind another RULE", Check.rules(x, "fill mid; x"), -14);
    Check.due("the tape", x.count(2), 0);
    Check.due("count(0)", x.count(0), 2);
    Check.due("rule(0, 0)", x.rule(0, 0), 0);
    Check.due("rule(1, 0)", x.rule(1, 0), 5);
    Check.due("DERIVED as by those", Check.spelled(x, 2), "m/o/0:0");
    Check.due("others", Check.rules(x, "fill low;"), 1);
    Check.due("rule(0, 0)", x.rule(0, 0), 9);
    Check.due("rule(1, 0)", x.rule(1, 0), -1);
    Check.due("rules() of none", x.rules(), 0);
    Check.due("count(0)", x.count(0), 0);
    is(x, "m/o/", 1);
    Check.due("undo() behind RULES", x.undo(), 0);
    is(x, "h/o/", 0);
  }

  private static void line() {
    Check.sentence("A LINE comes: true; false, and nothing happens: no such ones, they are not OPEN.");
    ToneLines x = Check.made("lmh/ooo/1:1", "");
    for (int no : NO_SUCH) {
      Check.due("line(" + no + ", 0)", x.line(no, 0), false);
      Check.due("line(0, " + no + ")", x.line(0, no), false);
      Check.due("line(" + no + ", " + no + ")", x.line(no, no), false);
    }
    Check.due("line(3, 2)", x.line(3, 2), false);
    Check.due("line(2, 3)", x.line(2, 3), false);
    Check.due("line(1, 1)", x.line(1, 1), false);
    Check.due("line(0, 2)", x.line(0, 2), false);
    Check.due("line(2, 0)", x.line(2, 0), false);
    is(x, "lmh/ooo/1:1", 0);
    Check.due("line(2, 2)", x.line(2, 2), true);
    is(x, "lmh/ooo/1:1 2:2", 1);
    Check.due("line(0, 0) of none", new ToneLines().line(0, 0), false);
  }

  private static void cut() {
    Check.sentence("A LINE goes: true; false: there is none such.");
    ToneLines x = Check.made("lmh/ooo/0:0 2:2", "");
    for (int no : NO_SUCH) {
      Check.due("cut(" + no + ", 0)", x.cut(no, 0), false);
      Check.due("cut(0, " + no + ")", x.cut(0, no), false);
      Check.due("cut(" + no + ", " + no + ")", x.cut(no, no), false);
    }
    Check.due("cut(3, 2)", x.cut(3, 2), false);
    Check.due("cut(2, 3)", x.cut(2, 3), false);
    Check.due("cut(0, 1)", x.cut(0, 1), false);
    Check.due("cut(1, 0)", x.cut(1, 0), false);
    is(x, "lmh/ooo/0:0 2:2", 0);
    Check.due("cut(2, 2)", x.cut(2, 2), true);
    Check.due("cut(2, 2) again", x.cut(2, 2), false);
    is(x, "lmh/ooo/0:0", 1);
  }

  private static void tone() {
    Check.sentence("A TONE of a KIND without LINES comes ahead of TONE t (behind all, if t is how many there are): true;"
        + " false, and nothing happens: no such ones, there are 12.");
    ToneLines x = new ToneLines();
    Check.due("tone(1, 0) of none", x.tone(1, 0), false);
    Check.due("tone(0, 0)", x.tone(0, 0), true);
    Check.due("tone(1, 1), behind all", x.tone(1, 1), true);
    Check.due("tone(0, 2), ahead of all", x.tone(0, 2), true);
    Check.due("tone(4, 0)", x.tone(4, 0), false);
    for (int no : NO_SUCH) {
      Check.due("tone(" + no + ", 0)", x.tone(no, 0), false);
      Check.due("tone(0, " + no + ")", x.tone(0, no), false);
    }
    is(x, "hlm//", 3);
    x = Check.made("hh/oo/0:0 0:1 1:1", "");
    Check.due("tone(1, 0)", x.tone(1, 0), true);
    is(x, "hlh/oo/0:0 0:1 2:1", 1);
    x = Check.made(TONES + "//", "");
    for (int t = 0; t <= 12; t++) Check.due("tone(" + t + ", 0) of 12", x.tone(t, 0), false);
    is(x, TONES + "//", 0);
  }

  private static void hush() {
    Check.sentence("A TONE goes with its LINES: true; false: there is none such.");
    ToneLines x = Check.made(TONES + "/oo/0:0 11:0 11:1", "");
    for (int no : NO_SUCH) Check.due("hush(" + no + ")", x.hush(no), false);
    is(x, TONES + "/oo/0:0 11:0 11:1", 0);
    Check.due("hush(11)", x.hush(11), true);
    Check.due("hush(11) again", x.hush(11), false);
    is(x, TONES.substring(1) + "/oo/0:0", 1);
    Check.due("hush(0)", x.hush(0), true);
    is(x, TONES.substring(2) + "/oo/", 2);
    Check.due("hush(0) of none", new ToneLines().hush(0), false);
  }

  private static void turn() {
    Check.sentence("A TONE becomes of another KIND: which it was; NONE: no such ones, it is so.");
    for (int k = 0; k < 3; k++) {
      for (int other = 0; other < 3; other++) {
        ToneLines x = Check.made("lmh".charAt(k) + "/o/0:0", "");
        Check.due("turn(0, " + other + ") of " + k, x.turn(0, other), k == other ? -1 : k);
        is(x, "lmh".charAt(other) + "/o/0:0", k == other ? 0 : 1);
      }
    }
    ToneLines x = Check.made("lm/o/", "");
    for (int no : NO_SUCH) {
      Check.due("turn(" + no + ", 2)", x.turn(no, 2), -1);
      Check.due("turn(0, " + no + ")", x.turn(0, no), -1);
    }
    Check.due("turn(2, 2)", x.turn(2, 2), -1);
    Check.due("turn(0, 3)", x.turn(0, 3), -1);
    is(x, "lm/o/", 0);
  }

  private static void grow() {
    Check.sentence("A SYLLABLE comes behind all: true; false, and nothing happens: there are 12.");
    ToneLines x = Check.made("h/o/0:0", "");
    for (int s = 1; s < 12; s++) Check.due("grow to " + (s + 1), x.grow(s % 2 == 0, s % 3 == 0), true);
    is(x, "h/ooO-oOo-OoO-oOo/0:0", 11);
    for (int i = 0; i < 4; i++) Check.due("grow of 12", x.grow(i > 1, i % 2 > 0), false);
    is(x, "h/ooO-oOo-OoO-oOo/0:0", 11);
  }

  private static void shrink() {
    Check.sentence("The last SYLLABLE goes with its LINES: true; false: there is none.");
    ToneLines x = Check.made("hl/o-O/0:0 0:1 1:1", "");
    Check.due("shrink()", x.shrink(), true);
    is(x, "hl/o/0:0", 1);
    Check.due("grow", x.grow(false, false), true);
    is(x, "hl/oo/0:0", 2);
    x.shrink();
    Check.due("shrink() of one", x.shrink(), true);
    is(x, "hl//", 4);
    Check.due("shrink() of none", x.shrink(), false);
    is(x, "hl//", 4);
    Check.due("shrink() of a new one", new ToneLines().shrink(), false);
    x = Check.made("h/" + ROW + "/0:11", "");
    Check.due("shrink() of 12", x.shrink(), true);
    is(x, "h/" + ROW.substring(1) + "/", 1);
  }

  private static void mark() {
    Check.sentence("A SYLLABLE is HEAVY or not, has an EDGE or not from now on: true; false, and nothing happens: no such"
        + " one, it is so.");
    String[] sorts = {"o", "O", "-o", "-O"};
    for (int was = 0; was < 4; was++) {
      for (int now = 0; now < 4; now++) {
        ToneLines x = Check.made("h/o" + sorts[was] + "o/0:1", "");
        boolean marked = x.mark(1, now % 2 == 1, now / 2 == 1);
        Check.due("mark " + sorts[was] + " as " + sorts[now], marked, was != now);
        is(x, "h/o" + sorts[now] + "o/0:1", was == now ? 0 : 1);
      }
    }
    ToneLines x = Check.made("h/oo/", "");
    for (int no : NO_SUCH) Check.due("mark(" + no + ")", x.mark(no, true, true), false);
    Check.due("mark(2)", x.mark(2, true, true), false);
    is(x, "h/oo/", 0);
    Check.due("mark(0) of none", new ToneLines().mark(0, true, true), false);
  }

  private static void does() {
    Check.sentence("A RULE is done with the WORD as told: its CHANGES (an ACT, if there are any); NONE: there is none such.");
    ToneLines x = Check.made("h/" + ROW + "/0:0", "shift any right;".repeat(7) + "drop any;");
    for (int no : NO_SUCH) Check.due("does(" + no + ")", x.does(no), -1);
    Check.due("does(8)", x.does(8), -1);
    Check.due("does(7), nothing", x.does(7), 0);
    is(x, "h/" + ROW + "/0:0", 0);
    Check.due("does(6), with the WORD as told", x.does(6), 2);
    is(x, "h/" + ROW + "/0:1", 1);
    Check.due("undo()", x.undo(), 0);
    is(x, "h/" + ROW + "/0:0", 0);
    Check.due("does(0) without RULES", Check.made("h/o/", "").does(0), -1);
  }

  private static void derive() {
    Check.sentence("All is DERIVED by n, for good: CHANGES of all (an ACT, if there are any); NONE: n not 0 to as many as"
        + " there are.");
    ToneLines x = Check.made("h/" + ROW + "/0:0", "shift any right;".repeat(8));
    for (int no : NO_SUCH) Check.due("derive(" + no + ")", x.derive(no), -1);
    Check.due("derive(9)", x.derive(9), -1);
    Check.due("derive(0)", x.derive(0), 0);
    is(x, "h/" + ROW + "/0:0", 0);
    Check.due("derive(8)", x.derive(8), 16);
    is(x, "h/" + ROW + "/0:8", 1);
    Check.due("RULES stay", x.count(0), 8);
    Check.due("derive(3), from there on", x.derive(3), 6);
    is(x, "h/" + ROW + "/0:11", 2);
    Check.due("derive(8), nothing", x.derive(8), 0);
    is(x, "h/" + ROW + "/0:11", 2);
    Check.due("undo(), all of them", x.undo(), 1);
    is(x, "h/" + ROW + "/0:8", 1);
    // What was asked by more RULES ahead of it doesn't count.
    x = Check.made("h/" + ROW + "/0:0", "shift any right;".repeat(8));
    Check.due("asked by 8", x.toneAt(8, 0, 1), 8);
    Check.due("derive(3) behind that", x.derive(3), 6);
    is(x, "h/" + ROW + "/0:3", 1);
    Check.due("asked by 8", x.toneAt(8, 0, 1), 11);
    Check.due("derive(0) behind that", x.derive(0), 0);
    is(x, "h/" + ROW + "/0:3", 1);
    x = Check.made("h/o/", "");
    Check.due("derive(0) without RULES", x.derive(0), 0);
    Check.due("derive(1) without RULES", x.derive(1), -1);
  }

  private static void undo() {
    Check.sentence("The latest ACT is taken back: how many more can be; NONE: none can.");
    ToneLines x = new ToneLines();
    Check.due("undo() of a new one", x.undo(), -1);
    x.tone(0, 2);
    x.tone(5, 0);
    x.hush(7);
    x.line(0, 0);
    x.shrink();
    Check.due("what was refused is no ACT", x.undo(), 0);
    is(x, "//", 0);
    Check.due("undo() of none", x.undo(), -1);
    // A TONE, a SYLLABLE that went come back with their LINES.
    x = Check.made("lmh/o-O/0:0 1:0 1:1 2:1", "");
    x.hush(1);
    x.shrink();
    Check.due("undo()", x.undo(), 1);
    is(x, "lh/o-O/0:0 1:1", 1);
    Check.due("undo()", x.undo(), 0);
    is(x, "lmh/o-O/0:0 1:0 1:1 2:1", 0);
  }

  private static void has(String word, int... want) {
    ToneLines x = Check.made(word, "");
    for (int what = 0; what < 9; what++) Check.due("has(0, " + what + ") of " + word, x.has(0, what), want[what]);
    for (int no : new int[] {-1, 9, 10, 31, 32, 40, MOST, LEAST}) Check.due("has(0, " + no + ")", x.has(0, no), -1);
  }

  private static void has() {
    Check.sentence("0 TONES, 1 SYLLABLES, 2 LINES, 3 TONES that FLOAT (bits), 4 SYLLABLES that are BARE (bits), 5 FALLS, 6"
        + " the most TONES of one SYLLABLE, 7 the most SYLLABLES of one TONE, 8 how many SYLLABLES from the first"
        + " on have a TONE, up to the first that is BARE. NONE for others.");
    has("//", 0, 0, 0, 0, 0, 0, 0, 0, 0);
    has("h//", 1, 0, 0, 1, 0, 0, 0, 0, 0);
    has("/o/", 0, 1, 0, 0, 1, 0, 0, 0, 0);
    has("h/o/0:0", 1, 1, 1, 0, 0, 0, 1, 1, 1);
    has("lmh/ooo/0:1 1:1 2:1 2:2", 3, 3, 4, 0, 1, 0, 3, 2, 0);
    has("lmh/ooo/0:0 1:0 2:2", 3, 3, 3, 0, 2, 0, 2, 1, 1);
    has("lmh/ooo/0:0 0:1 1:1", 3, 3, 3, 4, 4, 0, 2, 2, 2);
    has("h/ooo/0:0 0:1 0:2", 1, 3, 3, 0, 0, 0, 1, 3, 3);
    has(TONES + "/" + ROW + "/", 12, 12, 0, 4095, 4095, 0, 0, 0, 0);
    StringBuilder stack = new StringBuilder(TONES + "/" + ROW + "/");
    for (int t = 0; t < 12; t++) stack.append(t + ":0 ");
    for (int s = 1; s < 12; s++) stack.append("11:" + s + " ");
    has(stack.toString(), 12, 12, 23, 0, 0, 0, 12, 12, 12);
    has("hlhlhlhlhlhl//", 12, 0, 0, 4095, 0, 5, 0, 0, 0);
  }

  private static void toneAt() {
    Check.sentence("Of a TONE: 0 KIND, 1 FIRST, 2 LAST (-2 both: it FLOATS), 3 LINES, 4 HEIGHT (below 0, too: NONE - 99 for no"
        + " such ones there). NONE for others.");
    ToneLines x = Check.made("hl/" + ROW + "/0:0 0:11", "");
    int[][] want = {{2, 0, 11, 2, 9}, {0, -2, -2, 0, 3}};
    for (int t = 0; t < 2; t++) {
      for (int what = 0; what < 5; what++) {
        Check.due("toneAt(0, " + t + ", " + what + ")", x.toneAt(0, t, what), want[t][what]);
      }
      for (int no : new int[] {-1, 5, 6, 36, MOST, LEAST}) Check.due("toneAt(0, 0, " + no + ")", x.toneAt(0, t, no), -1);
    }
    for (int no : NO_SUCH) {
      for (int what = -1; what < 6; what++) {
        Check.due("toneAt(0, " + no + ", " + what + ")", x.toneAt(0, no, what), what == 4 ? -100 : -1);
      }
    }
    Check.due("toneAt(0, 2, 4)", x.toneAt(0, 2, 4), -100);
    Check.due("toneAt(1, 0, 4), no such n", x.toneAt(1, 0, 4), -1);
    Check.due("toneAt(1, 9, 4), no such n", x.toneAt(1, 9, 4), -1);
    x = Check.made("hlhlhlhlhlhl//", "");
    Check.due("a HEIGHT of -1", x.toneAt(0, 9, 4), -1);
    Check.due("a HEIGHT of -2", x.toneAt(0, 11, 4), -2);
    // There by 0, not by 1: it drops.
    x = Check.made("hl//", "drop low;");
    Check.due("toneAt(0, 1, 4)", x.toneAt(0, 1, 4), 3);
    Check.due("toneAt(1, 1, 4)", x.toneAt(1, 1, 4), -100);
  }

  private static void syllableAt() {
    Check.sentence("Of a SYLLABLE: 0 1 if HEAVY, 1 1 if it has an EDGE, 2 its TONES, 3 its first TONE, 4 its last one (-2"
        + " both: BARE), 5 READ, as KINDS by 4 to the place, each and 1 (the first at 1). NONE for others.");
    ToneLines x = Check.made("lmh/O-o/0:0 2:0", "");
    int[][] want = {{1, 0, 2, 0, 2, 1 + 4 * 3}, {0, 1, 0, -2, -2, 0}};
    for (int s = 0; s < 2; s++) {
      for (int what = 0; what < 6; what++) {
        Check.due("syllableAt(0, " + s + ", " + what + ")", x.syllableAt(0, s, what), want[s][what]);
      }
      for (int no : new int[] {-1, 6, 7, 37, MOST, LEAST}) Check.due("syllableAt(0, s, " + no + ")", x.syllableAt(0, s, no), -1);
    }
    for (int no : NO_SUCH) {
      for (int what = -1; what < 7; what++) Check.due("syllableAt(0, " + no + ", " + what + ")", x.syllableAt(0, no, what), -1);
    }
    Check.due("syllableAt(0, 2, 2)", x.syllableAt(0, 2, 2), -1);
    StringBuilder stack = new StringBuilder(TONES + "/" + ROW + "/");
    for (int t = 0; t < 12; t++) stack.append(t + ":11 ");
    x = Check.made(stack.toString(), "");
    Check.due("12 TONES", x.syllableAt(0, 11, 2), 12);
    Check.due("the last of 12", x.syllableAt(0, 11, 4), 11);
    Check.due("12 times HIGH", x.syllableAt(0, 11, 5), (1 << 24) - 1);
  }

  private static void linesOf() {
    Check.sentence("The SYLLABLES a TONE has LINES to (bits). NONE: no such one.");
    ToneLines x = Check.made(TONES + "/" + ROW + "/0:0 11:0 11:11", "");
    Check.due("linesOf(0, 0)", x.linesOf(0, 0), 1);
    Check.due("linesOf(0, 5)", x.linesOf(0, 5), 0);
    Check.due("linesOf(0, 11)", x.linesOf(0, 11), 2049);
    for (int no : NO_SUCH) Check.due("linesOf(0, " + no + ")", x.linesOf(0, no), -1);
    Check.due("linesOf(0, 1) of one", Check.made("h/o/", "").linesOf(0, 1), -1);
  }

  private static void open() {
    Check.sentence("OPEN (1, 0). NONE: no such ones.");
    ToneLines x = Check.made(TONES + "/" + ROW + "/5:5", "");
    Check.due("open(0, 0, 0)", x.open(0, 0, 0), 1);
    Check.due("open(0, 11, 11)", x.open(0, 11, 11), 1);
    Check.due("open(0, 0, 11)", x.open(0, 0, 11), 0);
    Check.due("open(0, 11, 0)", x.open(0, 11, 0), 0);
    Check.due("open(0, 5, 5)", x.open(0, 5, 5), 0);
    Check.due("open(0, 5, 11)", x.open(0, 5, 11), 1);
    Check.due("open(0, 5, 0)", x.open(0, 5, 0), 1);
    Check.due("open(0, 4, 5)", x.open(0, 4, 5), 1);
    Check.due("open(0, 4, 6)", x.open(0, 4, 6), 0);
    Check.due("open(0, 6, 5)", x.open(0, 6, 5), 1);
    Check.due("open(0, 6, 4)", x.open(0, 6, 4), 0);
    for (int no : NO_SUCH) {
      Check.due("open(0, " + no + ", 5)", x.open(0, no, 5), -1);
      Check.due("open(0, 5, " + no + ")", x.open(0, 5, no), -1);
    }
    x = Check.made("h/o/", "");
    Check.due("open(0, 1, 0) of one", x.open(0, 1, 0), -1);
    Check.due("open(0, 0, 1) of one", x.open(0, 0, 1), -1);
  }

  private static void spell() {
    Check.sentence("The WORD as a TEXT (LINES by TONES, then SYLLABLES, one blank between, none else): i NONE how many signs, 0"
        + " on: the i-th. NONE: no such one.");
    StringBuilder b = new StringBuilder(TONES + "/-O-O-O-O-O-O-O-O-O-O-O-O/0:0");
    for (int i = 1; i < 12; i++) b.append(" " + (i - 1) + ":" + i + " " + i + ":" + i);
    String[] words = {"//", "h//", "/o/", "/-O/", "lmh/oO-o-O/0:0 0:3 1:3 2:3", b.toString()};
    for (String word : words) {
      ToneLines x = Check.made(word, "");
      Check.due("how many signs", x.spell(0, -1), word.length());
      for (int i = 0; i < word.length(); i++) Check.due("spell(0, " + i + ") of " + word, x.spell(0, i), word.charAt(i));
      for (int no : new int[] {word.length(), word.length() + 1, 255, 256, 257, -2, MOST, LEAST}) {
        Check.due("spell(0, " + no + ") of " + word, x.spell(0, no), -1);
      }
      Check.due("told again", Check.word(new ToneLines(), word), word.indexOf('/'));
    }
    ToneLines x = Check.made("  hh / o o / 1 : 01  00:1  0:0 ", "");
    Check.due("LINES by TONES, then SYLLABLES", Check.spelled(x, 0), "hh/oo/0:0 0:1 1:1");
  }

  private static void rule(String text, int... want) {
    ToneLines x = Check.made("h/o/", text);
    for (int what = 0; what < 8; what++) Check.due("rule(0, " + what + ") of '" + text + "'", x.rule(0, what), want[what]);
    for (int no : new int[] {-1, 8, 9, 32, MOST, LEAST}) Check.due("rule(0, " + no + ")", x.rule(0, no), -1);
    for (int no : NO_SUCH) Check.due("rule(" + no + ", 0)", x.rule(no, 0), -1);
    Check.due("rule(1, 0)", x.rule(1, 0), -1);
  }

  private static void rule() {
    Check.sentence("0 its VERB (0 link .. 9 fill, in the order above), 1 1 with again, 2 its first K (0 .. 2, 3 any; -2: none),"
        + " 3 its second K or N (-2: none), 4 its SIDE or END (0 right, first; 1 left, last; -2: none), 5 its TEST (0 begin .."
        + " 6 after; -2: none), 6 1 with not, 7 its TEST's K (-2: none). NONE for others.");
    rule("link right;", 0, 0, -2, -2, 0, -2, 0, -2);
    rule("again link left;", 0, 1, -2, -2, 1, -2, 0, -2);
    rule("spread low left 1;", 1, 0, 0, 1, 1, -2, 0, -2);
    rule("shift mid right if begin;", 2, 0, 1, -2, 0, 0, 0, -2);
    rule("cut high first if not end;", 3, 0, 2, -2, 0, 1, 1, -2);
    rule("again dock any left if heavy;", 4, 1, 3, -2, 1, 2, 0, -2);
    rule("drop any if many;", 5, 0, 3, -2, -2, 3, 0, -2);
    rule("fuse low if not float;", 6, 0, 0, -2, -2, 4, 1, -2);
    rule("turn low to low if before low;", 7, 0, 0, 0, -2, 5, 0, 0);
    rule("turn any to high if not after any;", 7, 0, 3, 2, -2, 6, 1, 3);
    rule("flat 9 last;", 8, 0, -2, 9, 1, -2, 0, -2);
    rule("fill low;", 9, 0, 0, -2, -2, -2, 0, -2);
    // What one RULE had is not left to the next RULES told in its place.
    ToneLines x = Check.made("h/o/", "again spread any left 9 if not before any;");
    Check.rules(x, "link right;");
    int[] want = {0, 0, -2, -2, 0, -2, 0, -2};
    for (int what = 0; what < 8; what++) Check.due("rule(0, " + what + ") of others", x.rule(0, what), want[what]);
  }

  private static void done() {
    Check.sentence("Of the RULE as it is done when all is DERIVED: 0 CHANGES, 1 PASSES. NONE for others.");
    ToneLines x = Check.made("h/ooo/0:0", "again shift any right; shift any right; again drop any;");
    int[][] want = {{4, 3}, {0, 1}, {0, 1}};
    for (int r = 2; r >= 0; r--) {
      for (int what = 0; what < 2; what++) Check.due("done(" + r + ", " + what + ")", x.done(r, what), want[r][what]);
      for (int no : new int[] {-1, 2, 3, 32, MOST, LEAST}) Check.due("done(" + r + ", " + no + ")", x.done(r, no), -1);
    }
    for (int no : NO_SUCH) Check.due("done(" + no + ", 0)", x.done(no, 0), -1);
    Check.due("done(3, 0)", x.done(3, 0), -1);
    // Not as does did it.
    x.does(1);
    Check.due("done(0, 0) of another WORD", x.done(0, 0), 2);
    Check.due("done(0, 1) of another WORD", x.done(0, 1), 2);
    Check.due("done(0, 0) without RULES", Check.made("h/o/", "").done(0, 0), -1);
  }

  private static void exchanged() {
    Check.sentence("Whether the WORD is READ otherwise, were a RULE and the next one exchanged (1, 0). NONE: no such ones.");
    ToneLines x = Check.made("h/oooo/0:0", "spread high right 2; cut high first; drop low;");
    Check.due("exchanged(0)", x.exchanged(0), 1);
    Check.due("exchanged(1)", x.exchanged(1), 0);
    Check.due("exchanged(2), the last", x.exchanged(2), -1);
    Check.due("exchanged(3)", x.exchanged(3), -1);
    for (int no : NO_SUCH) Check.due("exchanged(" + no + ")", x.exchanged(no), -1);
    Check.due("exchanged(0) of one", Check.made("h/o/", "drop low;").exchanged(0), -1);
    Check.due("exchanged(0) of none", Check.made("h/o/", "").exchanged(0), -1);
    x = Check.made("/o/", "drop low;".repeat(6) + "fill low; fill mid;");
    Check.due("exchanged(6) of 8", x.exchanged(6), 1);
    Check.due("exchanged(7) of 8", x.exchanged(7), -1);
    Check.due("exchanged(5) of 8", x.exchanged(5), 0);
    // RULES ahead of the two and behind them are done, too.
    x = Check.made("h/oo/", "link right; shift high right; cut high last; cut high first;");
    Check.due("exchanged(0), shift ahead of link", x.exchanged(0), 0);
    x = Check.made("h/oo/", "link right; shift high right; cut high last; fill low;");
    Check.due("exchanged(1)", x.exchanged(1), 0);
    Check.due("exchanged(2), fill ahead of cut", x.exchanged(2), 1);
  }

  private static void needed() {
    Check.sentence("RULES that are NEEDED (bits).");
    Check.due("of no RULES", new ToneLines().needed(), 0);
    Check.due("the second of three", Check.made("h/o/", "drop low; link right; drop low;").needed(), 2);
    Check.due("all of 8", Check.made("h/" + ROW + "/0:0", "shift any right;".repeat(8)).needed(), 255);
    Check.due("none of 8", Check.made("h/" + ROW + "/0:11", "shift any right;".repeat(8)).needed(), 0);
  }

  private static void orders() {
    Check.sentence("Of ORDERS: 0 how many unlike READINGS come of them, 1 by how many the WORD is READ as by the RULES as they"
        + " stand; -2: there are more than 6 RULES. NONE for others.");
    ToneLines x = Check.made("/o/", "fill low; fill mid; fill high;");
    Check.due("orders(0)", x.orders(0), 3);
    Check.due("orders(1)", x.orders(1), 2);
    for (int no : new int[] {-1, 2, 3, 32, MOST, LEAST}) Check.due("orders(" + no + ")", x.orders(no), -1);
    Check.due("orders(0) of no RULES", new ToneLines().orders(0), 1);
    Check.due("orders(1) of no RULES", new ToneLines().orders(1), 1);
    for (int many = 6; many <= 8; many++) {
      x = Check.made("/o/", "fill low;" + "drop low;".repeat(many - 1));
      Check.due("orders(0) of " + many, x.orders(0), many > 6 ? -2 : 1);
      Check.due("orders(1) of " + many, x.orders(1), many > 6 ? -2 : 720);
      Check.due("orders(2) of " + many, x.orders(2), -1);
    }
  }

  private static void sources() {
    Check.sentence("SOURCES by n: how many. NONE for others.");
    ToneLines x = Check.made("h/o/", "link right;");
    int[] want = {0, 1, 3, 9, 27, 81, 243};
    for (int n = 6; n >= 0; n--) Check.due("sources(" + n + ")", x.sources(n), want[n]);
    for (int no : NO_SUCH) Check.due("sources(" + no + ")", x.sources(no), -1);
    Check.due("sources(7)", x.sources(7), -1);
    Check.due("sources(6) of a new one", new ToneLines().sources(6), 729);
    Check.due("sources(0) of a new one", new ToneLines().sources(0), 1);
  }

  private static void source() {
    Check.sentence("The first of SOURCES by n, rows by KINDS from the first TONE on, rising: its KINDS as a number by 3, the"
        + " first as the highest; -2: there is none. NONE for others.");
    ToneLines x = Check.made("h/o/", "link right;");
    int[] want = {-2, 2, 6, 18, 54, 162, 486};
    for (int n = 6; n >= 0; n--) Check.due("source(" + n + ")", x.source(n), want[n]);
    for (int no : NO_SUCH) Check.due("source(" + no + ")", x.source(no), -1);
    Check.due("source(7)", x.source(7), -1);
    x = Check.made("h/o/", "link left;");
    int[] left = {-2, 2, 2, 2, 2, 2, 2};
    for (int n = 0; n <= 6; n++) Check.due("source(" + n + ") by link left", x.source(n), left[n]);
    x = Check.made("hhhhhh/oooooo/", "link right;");
    Check.due("the last row there is", x.source(6), 728);
    Check.due("it alone", x.sources(6), 1);
    Check.due("source(0) of a new one", new ToneLines().source(0), 0);
  }

  private static void count() {
    Check.sentence("0 RULES, 1 ACTS that can be undone, 2 bytes of the tape, 3 RULES that CHANGE nothing as they are done"
        + " (bits). NONE for others.");
    ToneLines x = Check.made("h/ooo/0:0", "drop low;".repeat(7) + "shift any right;");
    Check.due("count(0)", x.count(0), 8);
    Check.due("count(3)", x.count(3), 127);
    x = Check.made("h/ooo/0:0", "shift any right; shift any right; shift any right; shift any left;");
    Check.due("count(3): only the third", x.count(3), 4);
    for (int i = 0; i < 14; i++) {
      Check.due("count(1)", x.count(1), Math.min(i, 12));
      x.mark(0, i % 2 == 0, false);
    }
    for (int i = 0; i <= 15; i++) {
      Check.due("count(2)", x.count(2), 20 * i);
      blanks(x);
    }
    Check.due("count(2) full", x.count(2), 300);
    for (int no : new int[] {-1, 4, 5, 32, 35, MOST, LEAST}) Check.due("count(" + no + ")", x.count(no), -1);
  }
}
