/** VERBS, TESTS, PASSES, CHANGES: tests for each sentence that names a boundary case. */
public final class VerbEdgesTest {
  private static final String TONES = "hhhhhhhhhhhh";
  private static final String ROW = "oooooooooooo";

  public static void main(String[] args) {
    begin();
    end();
    heavy();
    many();
    floats();
    neighbours();
    floatingFails();
    asAllIs();
    whichWay();
    once();
    linkRight();
    linkLeft();
    spreadRight();
    spreadLeft();
    shift();
    cut();
    dock();
    drop();
    fuse();
    turn();
    flat();
    fill();
    fillFull();
    onePass();
    twentyPasses();
    askedOnce();
    turned();
    changes();
    Check.end("VerbEdgesTest");
  }

  private static void becomes(String word, String rule, String want, int changes) {
    Check.becomes(word, rule, want, changes, 1);
  }

  private static void stays(String word, String rule) {
    Check.becomes(word, rule, word, 0, 1);
    Check.becomes(word, "again " + rule, word, 0, 1);
  }

  /** A TONE of which the TEST holds loses the LINE to FIRST. */
  private static void holds(String word, String test, String want, int changes) {
    becomes(word, "cut any first if " + test + ";", want, changes);
  }

  private static void begin() {
    Check.sentence("begin: FIRST is SYLLABLE 0");
    holds("h/ooo/0:0", "begin", "h/ooo/", 1);
    holds("h/ooo/0:0 0:2", "begin", "h/ooo/0:2", 1);
    stays("h/ooo/0:1", "cut any first if begin;");
    stays("h/ooo/0:1 0:2", "cut any first if begin;");
    holds("hl/ooo/0:0 1:0", "begin", "hl/ooo/", 2);
    holds("hl/ooo/0:0 1:1", "not begin", "hl/ooo/0:0", 1);
  }

  private static void end() {
    Check.sentence("end: LAST is the last one");
    holds("h/ooo/0:2", "end", "h/ooo/", 1);
    holds("h/ooo/0:0 0:2", "end", "h/ooo/0:2", 1);
    holds("h/o/0:0", "end", "h/o/", 1);
    holds("h/" + ROW + "/0:11", "end", "h/" + ROW + "/", 1);
    stays("h/ooo/0:1", "cut any first if end;");
    stays("h/ooo/0:0 0:1", "cut any first if end;");
    holds("hl/ooo/0:1 1:2", "not end", "hl/ooo/1:2", 1);
  }

  private static void heavy() {
    Check.sentence("heavy: LAST is HEAVY");
    holds("h/oO/0:1", "heavy", "h/oO/", 1);
    holds("h/oO/0:0 0:1", "heavy", "h/oO/0:1", 1);
    holds("h/oooooooooooO/0:11", "heavy", "h/oooooooooooO/", 1);
    stays("h/Oo/0:0 0:1", "cut any first if heavy;");
    stays("h/oO/0:0", "cut any first if heavy;");
    holds("hl/oO/0:0 1:1", "not heavy", "hl/oO/1:1", 1);
  }

  private static void many() {
    Check.sentence("many: it has two LINES or more");
    stays("h/ooo/", "cut any first if many;");
    stays("h/ooo/0:0", "cut any first if many;");
    holds("h/ooo/0:0 0:1", "many", "h/ooo/0:1", 1);
    holds("h/ooo/0:0 0:1 0:2", "many", "h/ooo/0:1 0:2", 1);
    holds("hl/ooo/0:0 1:1 1:2", "not many", "hl/ooo/1:1 1:2", 1);
  }

  private static void floats() {
    Check.sentence("float: it FLOATS");
    stays("h/o/0:0", "cut any first if float;");
    becomes("h/o/", "drop any if float;", "/o/", 1);
    stays("h/o/", "drop any if not float;");
    becomes("hl/oo/0:0", "turn any to mid if float;", "hl/oo/0:0", 0);
    becomes("hh/oo/0:0", "turn any to mid if float;", "hm/oo/0:0", 1);
    becomes("hh/oo/1:0", "turn any to mid if float;", "hh/oo/1:0", 0);
  }

  private static void neighbours() {
    Check.sentence("before K, after K: the next TONE, the one ahead is of K (there is one)");
    String word = "lmh/ooo/0:0 1:1 2:2";
    holds(word, "before mid", "lmh/ooo/1:1 2:2", 1);
    holds(word, "before high", "lmh/ooo/0:0 2:2", 1);
    stays(word, "cut any first if before low;");
    holds(word, "before any", "lmh/ooo/2:2", 2);
    holds(word, "after low", "lmh/ooo/0:0 2:2", 1);
    holds(word, "after mid", "lmh/ooo/0:0 1:1", 1);
    stays(word, "cut any first if after high;");
    holds(word, "after any", "lmh/ooo/0:0", 2);
    stays("h/o/0:0", "cut any first if before any;");
    stays("h/o/0:0", "cut any first if after any;");
    stays("l/o/0:0", "cut any first if before low;");
    stays("l/o/0:0", "cut any first if after low;");
    // The one that FLOATS is the next one, too.
    holds("lmh/ooo/0:0 2:1", "before mid", "lmh/ooo/2:1", 1);
    // Of the fullest row the last has none behind it.
    becomes("llllllllllll//", "drop any if not before any;", "lllllllllll//", 1);
    becomes("llllllllllll//", "drop any if not after any;", "//", 12);
  }

  private static void floatingFails() {
    Check.sentence("begin, end, heavy fail, if it FLOATS.");
    for (String test : new String[] {"begin", "end", "heavy"}) {
      stays("h/O/", "drop any if " + test + ";");
      stays("h//", "drop any if " + test + ";");
      becomes("h/O/", "drop any if not " + test + ";", "/O/", 1);
      becomes("h//", "drop any if not " + test + ";", "//", 1);
    }
  }

  private static void asAllIs() {
    Check.sentence("A PASS of a RULE goes over its TONES (SYLLABLES) one by one, each as all is by then");
    becomes("hh/oooo/0:0 1:1", "shift any right;", "hh/oooo/0:0 1:2", 2);
    becomes("lmh//", "drop any if after low;", "l//", 2);
    becomes("hhhh//", "turn any to low;", "hlhl//", 2);
    becomes("hl/ooo/", "link right;", "hl/ooo/0:0 1:1", 2);
    becomes("/ooo/", "fill low;", "lll/ooo/0:0 1:1 2:2", 6);
  }

  private static void whichWay() {
    Check.sentence("TONES from the first on, but for left from the last one on");
    becomes("hh/ooo/0:0 1:1", "shift any right;", "hh/ooo/0:0 1:2", 2);
    becomes("hh/ooo/0:1 1:2", "shift any left;", "hh/ooo/0:0 1:2", 2);
    becomes("hhh//", "turn any to low;", "hlh//", 1);
    becomes("lmh//", "drop any if after low;", "l//", 2);
    becomes("hml//", "drop any if before low;", "hl//", 1);
    // last is no left.
    becomes("hh/ooo/0:0 0:1 1:2", "cut any last;", "hh/ooo/0:0", 2);
  }

  private static void once() {
    Check.sentence("each that was there as the PASS began, and hasn't gone by then, once");
    becomes("llll//", "drop any;", "//", 4);
    becomes(TONES + "//", "drop any;", "//", 12);
    becomes("hhll/oo/0:0 2:1", "fuse any;", "hl/oo/0:0 1:1", 2);
    becomes("hhl/ooo/0:0 1:1 2:2", "fuse any if after any;", "hhl/ooo/0:0 1:1 2:2", 0);
    becomes("h/oooo/0:0", "shift any right;", "h/oooo/0:1", 2);
    becomes("h/oooo/0:0 0:1 0:2", "cut any first;", "h/oooo/0:1 0:2", 1);
    becomes("lhlh/oo/1:0 3:1", "drop low;", "hh/oo/0:0 1:1", 2);
  }

  private static void linkRight() {
    Check.sentence("link right: SYLLABLES from the first on that are BARE: the first TONE that FLOATS and is OPEN with it"
        + " gets the LINE.");
    becomes("hl/ooo/", "link right;", "hl/ooo/0:0 1:1", 2);
    becomes("hlm/oo/", "link right;", "hlm/oo/0:0 1:1", 2);
    becomes("lmh/ooo/0:1", "link right;", "lmh/ooo/0:1 1:2", 1);
    // TONE 0 FLOATS, but would CROSS.
    becomes("lmh/oo/1:0", "link right;", "lmh/oo/1:0 2:1", 1);
    becomes("lmh/oooo/1:2", "link right;", "lmh/oooo/0:0 1:2 2:3", 2);
    // TONE 0 has a LINE, though it would be OPEN.
    stays("l/oo/0:0", "link right;");
    stays("lm/oo/0:1 1:1", "link right;");
    stays("lm/oo/1:0", "link right;");
    stays("/oo/", "link right;");
    stays("lm//", "link right;");
    becomes("lm/-o-o/", "link right;", "lm/-o-o/0:0 1:1", 2);
    becomes(TONES + "/" + ROW + "/", "link right;", full(), 12);
  }

  private static void linkLeft() {
    Check.sentence("left: from the last on, the last such TONE.");
    becomes("hl/ooo/", "link left;", "hl/ooo/0:1 1:2", 2);
    becomes("hlm/oo/", "link left;", "hlm/oo/1:0 2:1", 2);
    becomes("lmh/ooo/2:1", "link left;", "lmh/ooo/1:0 2:1", 1);
    becomes("lmh/oo/1:1", "link left;", "lmh/oo/0:0 1:1", 1);
    becomes("lmh/oooo/1:1", "link left;", "lmh/oooo/0:0 1:1 2:3", 2);
    stays("l/oo/0:1", "link left;");
    stays("lm/oo/0:1", "link left;");
    stays("/oo/", "link left;");
    stays("lm//", "link left;");
    becomes(TONES + "/" + ROW + "/", "link left;", full(), 12);
  }

  private static String full() {
    StringBuilder b = new StringBuilder(TONES + "/" + ROW + "/0:0");
    for (int i = 1; i < 12; i++) b.append(" " + i + ":" + i);
    return b.toString();
  }

  /** A row of 12 with LINES of one TONE from one SYLLABLE to another. */
  private static String spread(int from, int to) {
    StringBuilder b = new StringBuilder("h/" + ROW + "/0:" + from);
    for (int s = from + 1; s <= to; s++) b.append(" 0:" + s);
    return b.toString();
  }

  private static void spreadRight() {
    Check.sentence("spread: each TONE of K that has LINES: on right the SYLLABLE behind LAST gets a LINE, as long as it is"
        + " BARE, OPEN, has no EDGE, N times at most (then LAST is that)");
    for (int n = 1; n <= 9; n++) becomes(spread(0, 0), "spread any right " + n + ";", spread(0, n), n);
    becomes(spread(3, 3), "spread any right 8;", spread(3, 11), 8);
    becomes(spread(3, 3), "spread any right 9;", spread(3, 11), 8);
    stays(spread(11, 11), "spread any right 9;");
    stays(spread(0, 11), "spread any right 9;");
    // From LAST on, not into the gap.
    becomes("h/oooo/0:0 0:2", "spread any right 9;", "h/oooo/0:0 0:2 0:3", 1);
    // Not BARE.
    becomes("hl/oooo/0:0 1:3", "spread high right 9;", "hl/oooo/0:0 0:1 0:2 1:3", 2);
    stays("hl/oo/0:0 1:1", "spread high right 9;");
    // BARE, but not OPEN.
    stays("hl/ooo/0:0 1:0", "spread high right 9;");
    stays("hl/ooo/0:0 1:0 1:2", "spread high right 9;");
    // An EDGE.
    becomes("h/ooo-oo/0:0", "spread any right 9;", "h/ooo-oo/0:0 0:1 0:2", 2);
    becomes("h/-oo/0:0", "spread any right 9;", "h/-oo/0:0 0:1", 1);
    stays("h/o-o/0:0", "spread any right 9;");
    // Without LINES, of another KIND.
    stays("h/oo/", "spread any right 9;");
    stays("h/oo/0:0", "spread low right 9;");
  }

  private static void spreadLeft() {
    Check.sentence("on left the one ahead of FIRST, as long as that is BARE and OPEN and the SYLLABLE that is FIRST has no"
        + " EDGE, N times at most (then FIRST is that)");
    for (int n = 1; n <= 9; n++) becomes(spread(11, 11), "spread any left " + n + ";", spread(11 - n, 11), n);
    becomes(spread(8, 8), "spread any left 8;", spread(0, 8), 8);
    becomes(spread(8, 8), "spread any left 9;", spread(0, 8), 8);
    stays(spread(0, 0), "spread any left 9;");
    stays(spread(0, 11), "spread any left 9;");
    becomes("h/oooo/0:1 0:3", "spread any left 9;", "h/oooo/0:0 0:1 0:3", 1);
    becomes("hl/oooo/0:0 1:3", "spread low left 9;", "hl/oooo/0:0 1:1 1:2 1:3", 2);
    stays("hl/oo/0:0 1:1", "spread low left 9;");
    stays("hl/ooo/0:2 1:2", "spread low left 9;");
    stays("hl/ooo/0:0 0:2 1:2", "spread low left 9;");
    becomes("h/oo-ooo/0:4", "spread any left 9;", "h/oo-ooo/0:2 0:3 0:4", 2);
    becomes("h/-oo/0:1", "spread any left 9;", "h/-oo/0:0 0:1", 1);
    stays("h/o-o/0:1", "spread any left 9;");
    stays("h/-o/0:0", "spread any left 9;");
    stays("h/oo/", "spread any left 9;");
    stays("h/oo/0:1", "spread low left 9;");
  }

  private static void shift() {
    Check.sentence("shift: as spread by one, but the LINE to what was LAST (FIRST) goes, if it came.");
    becomes("h/oooo/0:0", "shift any right;", "h/oooo/0:1", 2);
    becomes("h/oooo/0:0 0:1", "shift any right;", "h/oooo/0:0 0:2", 2);
    becomes("h/oooo/0:0 0:2", "shift any right;", "h/oooo/0:0 0:3", 2);
    becomes("h/oooo/0:3", "shift any left;", "h/oooo/0:2", 2);
    becomes("h/oooo/0:2 0:3", "shift any left;", "h/oooo/0:1 0:3", 2);
    becomes("h/oooo/0:1 0:3", "shift any left;", "h/oooo/0:0 0:3", 2);
    becomes("h/" + ROW + "/0:10", "shift any right;", "h/" + ROW + "/0:11", 2);
    // It doesn't come, so none goes: the row's end, an EDGE, not BARE, not OPEN, no LINE.
    stays("h/oo/0:1", "shift any right;");
    stays("h/oo/0:0", "shift any left;");
    stays("h/oo/0:0 0:1", "shift any right;");
    stays("h/o-o/0:0", "shift any right;");
    stays("h/o-o/0:1", "shift any left;");
    stays("hl/oo/0:0 1:1", "shift high right;");
    stays("hl/oo/0:0 1:1", "shift low left;");
    stays("hl/oo/0:0 1:0", "shift high right;");
    stays("hl/oo/0:1 1:1", "shift low left;");
    stays("h/oo/", "shift any right;");
    stays("h/oo/", "shift any left;");
    becomes("h/-oo/0:1", "shift any left;", "h/-oo/0:0", 2);
  }

  private static void cut() {
    Check.sentence("cut: its LINE to FIRST (LAST) goes.");
    becomes("h/ooo/0:0 0:1 0:2", "cut any first;", "h/ooo/0:1 0:2", 1);
    becomes("h/ooo/0:0 0:1 0:2", "cut any last;", "h/ooo/0:0 0:1", 1);
    becomes("h/ooo/0:1", "cut any first;", "h/ooo/", 1);
    becomes("h/ooo/0:1", "cut any last;", "h/ooo/", 1);
    becomes("h/" + ROW + "/0:0 0:11", "cut any last;", "h/" + ROW + "/0:0", 1);
    becomes("hl/oo/0:0 1:0", "cut low first;", "hl/oo/0:0", 1);
    stays("h/oo/", "cut any first;");
    stays("h/oo/", "cut any last;");
  }

  private static void dock() {
    Check.sentence("dock: a TONE of K that FLOATS: on right FIRST of the next TONE behind it that has LINES gets one, on"
        + " left LAST of the next one ahead that has, if OPEN.");
    becomes("lh/ooo/1:1 1:2", "dock any right;", "lh/ooo/0:1 1:1 1:2", 1);
    becomes("hl/ooo/0:0 0:1", "dock any left;", "hl/ooo/0:0 0:1 1:1", 1);
    // Over those that FLOAT.
    becomes("lmh/o/2:0", "dock low right;", "lmh/o/0:0 2:0", 1);
    becomes("hml/o/0:0", "dock low left;", "hml/o/0:0 2:0", 1);
    becomes("l" + "m".repeat(10) + "h/o/11:0", "dock low right;", "l" + "m".repeat(10) + "h/o/0:0 11:0", 1);
    becomes("h" + "m".repeat(10) + "l/o/0:0", "dock low left;", "h" + "m".repeat(10) + "l/o/0:0 11:0", 1);
    becomes("lmh/oo/0:0 2:1", "dock mid right;", "lmh/oo/0:0 1:1 2:1", 1);
    becomes("lmh/oo/0:0 2:1", "dock mid left;", "lmh/oo/0:0 1:0 2:1", 1);
    // None has LINES there; it has LINES itself; it is of another KIND.
    stays("hl/oo/0:0", "dock any right;");
    stays("lh/oo/1:0", "dock any left;");
    stays("lh/oo/", "dock any right;");
    stays("lh/oo/", "dock any left;");
    stays("lh/oo/0:0 1:1", "dock any right;");
    stays("lh/oo/0:0 1:1", "dock any left;");
    stays("lh/oo/1:1", "dock mid right;");
    stays("lh//", "dock any left;");
  }

  private static void drop() {
    Check.sentence("drop: a TONE of K that FLOATS goes.");
    becomes("lmh/o/1:0", "drop any;", "m/o/0:0", 2);
    becomes("lmh/o/1:0", "drop high;", "lm/o/1:0", 1);
    stays("lmh/o/1:0", "drop mid;");
    stays("h/o/0:0", "drop any;");
    stays("/o/", "drop any;");
    becomes("h//", "drop any;", "//", 1);
  }

  private static void fuse() {
    Check.sentence("fuse: a TONE of K, and the next one is of its KIND: that one's LINES come to it, that one goes; again"
        + " so, as long as it is so.");
    becomes("hh/oo/0:0 1:1", "fuse any;", "h/oo/0:0 0:1", 2);
    becomes("hhh/ooo/0:0 1:1 2:2", "fuse high;", "h/ooo/0:0 0:1 0:2", 4);
    becomes(TONES + "//", "fuse any;", "h//", 11);
    becomes("hhlhh//", "fuse any;", "hlh//", 2);
    becomes("llhh//", "fuse high;", "llh//", 1);
    becomes("hh/oo/1:1", "fuse any;", "h/oo/0:1", 2);
    becomes("hh/oo/0:0", "fuse any;", "h/oo/0:0", 1);
    stays("h/o/0:0", "fuse any;");
    stays("hlh/o/", "fuse any;");
    stays("ll/o/", "fuse high;");
    stays("//", "fuse any;");
    StringBuilder full = new StringBuilder("h/" + ROW + "/0:0");
    for (int s = 1; s < 12; s++) full.append(" 0:" + s);
    becomes(full(), "fuse any;", full.toString(), 22);
  }

  private static void turn() {
    Check.sentence("turn: a TONE of the first K, the one ahead is of its KIND as it is by then: it becomes of the second K"
        + " (nothing, if it is so).");
    becomes("hh//", "turn high to low;", "hl//", 1);
    becomes("hhh//", "turn high to low;", "hlh//", 1);
    becomes("hhhhh//", "turn any to mid;", "hmhmh//", 2);
    becomes("llmmhh//", "turn any to mid;", "lmmmhm//", 2);
    becomes("lll//", "turn low to high;", "lhl//", 1);
    becomes("llhh//", "turn low to high;", "lhhh//", 1);
    stays("h//", "turn any to low;");
    stays("//", "turn any to low;");
    stays("hlh//", "turn any to low;");
    stays("hh//", "turn any to high;");
    stays("hhh//", "turn high to high;");
    stays("ll//", "turn high to low;");
    becomes("hh/o/0:0 1:0", "turn high to low;", "hl/o/0:0 1:0", 1);
  }

  private static String stack(int from, int to) {
    StringBuilder b = new StringBuilder(TONES + "/o/" + from + ":0");
    for (int t = from + 1; t <= to; t++) b.append(" " + t + ":0");
    return b.toString();
  }

  private static void flat() {
    Check.sentence("flat: SYLLABLES from the first on: as long as one has more than N LINES, that of its first TONE goes"
        + " (flat N first), of its last one (flat N last).");
    for (int n = 1; n <= 9; n++) {
      becomes(stack(0, 11), "flat " + n + " first;", stack(12 - n, 11), 12 - n);
      becomes(stack(0, 11), "flat " + n + " last;", stack(0, n - 1), 12 - n);
      becomes(stack(0, n), "flat " + n + " first;", stack(1, n), 1);
      stays(stack(0, n - 1), "flat " + n + " first;");
      stays(stack(0, n - 1), "flat " + n + " last;");
    }
    stays("h/o/", "flat 1 first;");
    stays("h//", "flat 1 first;");
    becomes("lmh/oo/0:0 1:0 1:1 2:1", "flat 1 first;", "lmh/oo/1:0 2:1", 2);
    becomes("lmh/oo/0:0 1:0 1:1 2:1", "flat 1 last;", "lmh/oo/0:0 1:1", 2);
  }

  private static void fill() {
    Check.sentence("fill: SYLLABLES from the first on that are BARE: a TONE of K comes directly behind the last TONE with a"
        + " LINE to a SYLLABLE ahead (ahead of all without such), with a LINE to it");
    becomes("/o/", "fill mid;", "m/o/0:0", 2);
    becomes("hh/o/", "fill low;", "lhh/o/0:0", 2);
    becomes("hh/oo/1:1", "fill low;", "lhh/oo/0:0 2:1", 2);
    becomes("hh/oo/0:0", "fill low;", "hlh/oo/0:0 1:1", 2);
    becomes("hhh/oo/0:0 1:0", "fill low;", "hhlh/oo/0:0 1:0 2:1", 2);
    // A SYLLABLE ahead, not only the one directly ahead: that one can't be filled.
    becomes("hh/oooo/0:0 0:2", "fill low;", "hlh/oooo/0:0 0:2 1:3", 2);
    becomes("h/" + ROW.substring(1) + "/0:10", "fill low;",
        "llllllllllh/" + ROW.substring(1) + "/0:0 1:1 2:2 3:3 4:4 5:5 6:6 7:7 8:8 9:9 10:10", 20);
    stays("h/o/0:0", "fill low;");
    stays("h//", "fill low;");
  }

  private static void fillFull() {
    Check.sentence("none, if there are 12 TONES, or the LINE would CROSS one.");
    stays(TONES + "/o/", "fill low;");
    stays(TONES + "/oo/0:0", "fill low;");
    becomes(TONES.substring(1) + "/ooo/", "fill low;", "l" + TONES.substring(1) + "/ooo/0:0", 2);
    becomes("/" + ROW + "/", "fill high;", full(), 24);
    stays("h/ooo/0:0 0:2", "fill low;");
    stays("hm/ooo/0:0 0:2 1:2", "fill low;");
    becomes("h/ooo/0:1", "fill low;", "lhl/ooo/0:0 1:1 2:2", 4);
  }

  private static void onePass() {
    Check.sentence("A RULE is done by one PASS; with again by PASSES until one changes nothing (that one counts, too), 20"
        + " at most.");
    Check.becomes("h/oooo/0:0", "shift any right;", "h/oooo/0:1", 2, 1);
    Check.becomes("h/oooo/0:0", "again shift any right;", "h/oooo/0:3", 6, 4);
    Check.becomes("h/oooo/0:3", "again shift any right;", "h/oooo/0:3", 0, 1);
    Check.becomes("//", "again drop any;", "//", 0, 1);
    Check.becomes("hl/oo/", "again link right;", "hl/oo/0:0 1:1", 2, 2);
    Check.becomes(spread(0, 0), "again spread any right 1;", spread(0, 11), 11, 12);
    Check.becomes(spread(0, 0), "again spread any right 9;", spread(0, 11), 11, 3);
    Check.becomes(spread(0, 11), "again cut any last;", "h/" + ROW + "/", 12, 13);
    Check.becomes("hhh//", "again turn any to low;", "hlh//", 1, 2);
    Check.becomes("/oo/", "again fill mid;", "mm/oo/0:0 1:1", 4, 2);
    Check.becomes("hhh/o/0:0 1:0 2:0", "again flat 1 last;", "hhh/o/0:0", 2, 2);
    Check.becomes("hhh/o/2:0", "again dock any right;", "hhh/o/0:0 1:0 2:0", 2, 2);
    Check.becomes("hhh/o/", "again fuse any;", "h/o/", 2, 2);
  }

  /** As many TONES at SYLLABLE 0; and then, the last at the row's end, each next to the one behind it. */
  private static String shifted(int tones, int staying, boolean before) {
    StringBuilder b = new StringBuilder("h".repeat(tones) + "/" + ROW + "/");
    for (int t = 0; t < tones; t++) {
      b.append(t == 0 ? "" : " ").append(t + ":" + (before || t < staying ? 0 : 12 - tones + t));
    }
    return b.toString();
  }

  /**
   * Of TONES at SYLLABLE 0 the last begins to shift in the first PASS, each one ahead of it two PASSES
   * behind the next one, and goes one SYLLABLE less far: so the last PASS that changes something is one
   * more for each TONE more, from 11 on.
   */
  private static void twentyPasses() {
    for (int tones = 1; tones <= 10; tones++) {
      int changes = 2 * (11 * tones - tones * (tones - 1) / 2);
      int passes = Math.min(20, 10 + tones + 1);
      Check.becomes(shifted(tones, 0, true), "again shift any right;", shifted(tones, 0, false), changes, passes);
    }
    Check.becomes(shifted(11, 1, true), "again shift any right;", shifted(11, 1, false), 130, 20);
    Check.becomes(shifted(12, 2, true), "again shift any right;", shifted(12, 2, false), 130, 20);
    // What the 20 left is done by 20 more.
    ToneLines x = Check.made(shifted(11, 1, true), "again shift any right;");
    Check.due("does(0)", x.does(0), 130);
    Check.due("does(0) once more", x.does(0), 2);
    Check.due("the WORD", Check.spelled(x, 0), shifted(11, 0, false));
    Check.due("does(0) a third time", x.does(0), 0);
    x = Check.made(shifted(11, 1, true), "again shift any right; again shift any right;");
    Check.due("done(0, 1)", x.done(0, 1), 20);
    Check.due("done(1, 0)", x.done(1, 0), 2);
    Check.due("done(1, 1)", x.done(1, 1), 2);
  }

  private static void askedOnce() {
    Check.sentence("The if of a TONE is asked once in a PASS, at its turn");
    becomes("h/oooo/0:0", "spread any right 9 if not many;", "h/oooo/0:0 0:1 0:2 0:3", 3);
    becomes("hhh/ooo/0:0 1:1 2:2", "fuse any if not many;", "h/ooo/0:0 0:1 0:2", 4);
    becomes("hhh//", "fuse any if before high;", "h//", 2);
    Check.becomes("h/oooo/0:0", "again spread any right 1 if not many;", "h/oooo/0:0 0:1", 1, 2);
    Check.becomes("h/ooo/0:0", "again shift any right if not end;", "h/ooo/0:2", 4, 3);
    // Not as the PASS began: h stood behind m then.
    becomes("lmh//", "drop any if after low;", "l//", 2);
    becomes("lmh//", "drop any if not after mid;", "//", 3);
  }

  private static void turned() {
    Check.sentence("not turns all of the TEST.");
    becomes("lmh//", "drop any if not before any;", "lm//", 1);
    becomes("hm//", "drop any if not before low;", "//", 2);
    becomes("l//", "drop any if not after low;", "//", 1);
    becomes("lh//", "drop any if not after any;", "//", 2);
    becomes("h/o/", "drop any if not begin;", "/o/", 1);
    becomes("h/o/", "drop any if not many;", "/o/", 1);
    stays("h/o/", "drop any if not float;");
  }

  private static void changes() {
    Check.sentence("CHANGES: LINES that came or went, TONES that came, went or were turned, counted one by one (fuse: each"
        + " LINE that comes anew, and the TONE).");
    becomes("hl/oo/", "link right;", "hl/oo/0:0 1:1", 2);
    becomes("h/ooo/0:0", "spread any right 2;", "h/ooo/0:0 0:1 0:2", 2);
    becomes("h/oo/0:0", "shift any right;", "h/oo/0:1", 2);
    becomes("hl/oo/0:0 1:1", "cut any first;", "hl/oo/", 2);
    becomes("ll/o/", "drop low;", "/o/", 2);
    becomes("llmm//", "turn any to high;", "lhmh//", 2);
    becomes("hhh/o/0:0 1:0 2:0", "flat 1 first;", "hhh/o/2:0", 2);
    becomes("/oo/", "fill low;", "ll/oo/0:0 1:1", 4);
    // fuse: none anew, one of two anew, both anew, and what FLOATS.
    becomes("hh/o/0:0 1:0", "fuse any;", "h/o/0:0", 1);
    becomes("hh/oo/0:0 1:0 1:1", "fuse any;", "h/oo/0:0 0:1", 2);
    becomes("hh/ooo/0:0 1:1 1:2", "fuse any;", "h/ooo/0:0 0:1 0:2", 3);
    becomes("hh/o/", "fuse any;", "h/o/", 1);
    // What comes and goes again counts, too.
    ToneLines x = Check.made("h/ooo/0:1", "shift any right; shift any left;");
    Check.due("derive(2), there and back", x.derive(2), 4);
    Check.due("the WORD", Check.spelled(x, 0), "h/ooo/0:1");
    Check.due("an ACT", x.count(1), 1);
  }
}
