/** What each VERB does, each TEST asks, how PASSES go on (promises 14, 15, 24). */
public final class VerbsTest {
  public static void main(String[] args) {
    link();
    spread();
    shift();
    cut();
    dock();
    drop();
    fuse();
    turn();
    flat();
    fill();
    tests();
    passes();
    Check.end("VerbsTest");
  }

  private static void once(String word, String rule, String want, int changes) {
    Check.becomes(word, rule, want, changes, 1);
  }

  private static void nothing(String word, String rule) {
    Check.becomes(word, rule, word, 0, 1);
    Check.becomes(word, "again " + rule, word, 0, 1);
  }

  private static void link() {
    once("hl/ooo/", "link right;", "hl/ooo/0:0 1:1", 2);
    once("hl/ooo/", "link left;", "hl/ooo/0:1 1:2", 2);
    once("hlm/oo/", "link right;", "hlm/oo/0:0 1:1", 2);
    once("hlm/oo/", "link left;", "hlm/oo/1:0 2:1", 2);
    once("lmh/oooo/1:1", "link right;", "lmh/oooo/0:0 1:1 2:2", 2);
    once("lmh/oo/1:0", "link right;", "lmh/oo/1:0 2:1", 1);
    once("lmh/oo/1:1", "link left;", "lmh/oo/0:0 1:1", 1);
    once("hl/-o-o/", "link right;", "hl/-o-o/0:0 1:1", 2);
    nothing("h/oo/0:0", "link right;");
    nothing("h//", "link left;");
    nothing("lh/oo/1:0", "link right;");
  }

  private static void spread() {
    once("h/oooo/0:1", "spread high right 9;", "h/oooo/0:1 0:2 0:3", 2);
    once("h/oooo/0:2", "spread high left 9;", "h/oooo/0:0 0:1 0:2", 2);
    once("h/oooo/0:0", "spread high right 1;", "h/oooo/0:0 0:1", 1);
    once("h/oooo/0:3", "spread any left 2;", "h/oooo/0:1 0:2 0:3", 2);
    once("h/oooo/0:0 0:2", "spread high right 2;", "h/oooo/0:0 0:2 0:3", 1);
    once("h/oo-oo/0:0", "spread high right 9;", "h/oo-oo/0:0 0:1", 1);
    once("h/oo-oo/0:3", "spread high left 9;", "h/oo-oo/0:2 0:3", 1);
    once("h/-oo/0:1", "spread high left 9;", "h/-oo/0:0 0:1", 1);
    once("hl/oooo/0:0 1:3", "spread any right 9;", "hl/oooo/0:0 0:1 0:2 1:3", 2);
    once("hl/oooo/0:0 1:3", "spread any left 9;", "hl/oooo/0:0 1:1 1:2 1:3", 2);
    once("hl/oooooo/0:0 1:3", "spread any left 1;", "hl/oooooo/0:0 1:2 1:3", 1);
    once("hl/oo/0:0 1:0", "spread any right 1;", "hl/oo/0:0 1:0 1:1", 1);
    once("hl/oo/0:1 1:1", "spread any left 1;", "hl/oo/0:0 0:1 1:1", 1);
    nothing("hl/oo/0:0 1:0", "spread high right 1;");
    nothing("hl/oo/0:1 1:1", "spread low left 1;");
    nothing("h/o-o/0:0", "spread high right 9;");
    nothing("h/o-o/0:1", "spread high left 9;");
    nothing("l/oo/0:0", "spread high right 1;");
    nothing("h/oo/", "spread high right 1;");
    nothing("h/oo/0:1", "spread high right 1;");
    nothing("h/oo/0:0", "spread high left 1;");
  }

  private static void shift() {
    once("h/ooo/0:0", "shift high right;", "h/ooo/0:1", 2);
    once("h/ooo/0:0 0:1", "shift high right;", "h/ooo/0:0 0:2", 2);
    once("h/ooo/0:1 0:2", "shift high left;", "h/ooo/0:0 0:2", 2);
    once("hh/oooo/0:0 1:1", "shift any right;", "hh/oooo/0:0 1:2", 2);
    once("hh/oooo/0:2 1:3", "shift any left;", "hh/oooo/0:1 1:3", 2);
    once("hl/oo/0:0 1:0", "shift any right;", "hl/oo/0:0 1:1", 2);
    nothing("h/o-o/0:0", "shift high right;");
    nothing("h/o-o/0:1", "shift high left;");
    nothing("h/oo/0:1", "shift high right;");
    nothing("h/oo/0:0 0:1", "shift high right;");
    nothing("h/ooo/0:0 0:1", "shift high left;");
    nothing("h/oo/", "shift any left;");
    nothing("m/oo/0:0", "shift high right;");
  }

  private static void cut() {
    once("h/ooo/0:0 0:1 0:2", "cut high first;", "h/ooo/0:1 0:2", 1);
    once("h/ooo/0:0 0:1 0:2", "cut high last;", "h/ooo/0:0 0:1", 1);
    once("hl/ooo/0:0 1:1 1:2", "cut any last;", "hl/ooo/1:1", 2);
    once("hh/ooo/0:0 0:1 1:2", "cut any last if many;", "hh/ooo/0:0 1:2", 1);
    nothing("h/oo/", "cut any first;");
    nothing("h/oo/0:0", "cut low first;");
  }

  private static void dock() {
    once("hlh/oo/0:0 2:1", "dock low right;", "hlh/oo/0:0 1:1 2:1", 1);
    once("hlh/oo/0:0 2:1", "dock low left;", "hlh/oo/0:0 1:0 2:1", 1);
    once("hl/ooo/0:0 0:1", "dock low left;", "hl/ooo/0:0 0:1 1:1", 1);
    once("lh/ooo/1:1 1:2", "dock low right;", "lh/ooo/0:1 1:1 1:2", 1);
    once("hll/o/0:0", "dock low left;", "hll/o/0:0 1:0 2:0", 2);
    once("llh/o/2:0", "dock any right;", "llh/o/0:0 1:0 2:0", 2);
    once("lmh/o/2:0", "dock low right;", "lmh/o/0:0 2:0", 1);
    nothing("hl/oo/0:0", "dock low right;");
    nothing("lh/oo/1:0", "dock low left;");
    nothing("ll/oo/", "dock low left;");
  }

  private static void drop() {
    once("lhl/o/1:0", "drop low;", "h/o/0:0", 2);
    once("lhl/o/1:0", "drop any;", "h/o/0:0", 2);
    once("lll/o/", "drop any if after low;", "l/o/", 2);
    once("lmh//", "drop any if before any;", "h//", 2);
    once("hlhl/oo/0:0 2:1", "drop low;", "hh/oo/0:0 1:1", 2);
    nothing("lhl/ooo/0:0 1:1 2:2", "drop any;");
    nothing("l/o/", "drop low if not float;");
  }

  private static void fuse() {
    once("hh/oo/0:0 1:1", "fuse any;", "h/oo/0:0 0:1", 2);
    once("hh/o/0:0 1:0", "fuse high;", "h/o/0:0", 1);
    once("hh/o/", "fuse any;", "h/o/", 1);
    once("hhhllm/ooo/0:0 2:1 4:2", "fuse any;", "hlm/ooo/0:0 0:1 1:2", 5);
    once("hhll/o/", "fuse low;", "hhl/o/", 1);
    once("hhh/oo/1:0 2:1", "fuse any if float;", "h/oo/0:0 0:1", 4);
    once("hhll/oo/1:0 2:1", "fuse any if not float;", "hhl/oo/1:0 2:1", 1);
    nothing("hlh/o/", "fuse any;");
    nothing("h/o/", "fuse any;");
    nothing("hh/o/", "fuse low;");
  }

  private static void turn() {
    once("hhh//", "turn high to low;", "hlh//", 1);
    once("hhhh//", "turn high to low;", "hlhl//", 2);
    once("mmll//", "turn any to low;", "mlll//", 1);
    once("llhh//", "turn low to high;", "lhhh//", 1);
    once("hhh/ooo/2:2", "turn high to mid if end;", "hhm/ooo/2:2", 1);
    nothing("hlh//", "turn high to low;");
    nothing("h//", "turn any to low;");
    nothing("hh//", "turn any to high;");
    nothing("hh//", "turn low to mid;");
  }

  private static void flat() {
    once("lmh/o/0:0 1:0 2:0", "flat 1 first;", "lmh/o/2:0", 2);
    once("lmh/o/0:0 1:0 2:0", "flat 1 last;", "lmh/o/0:0", 2);
    once("lmh/o/0:0 1:0 2:0", "flat 2 first;", "lmh/o/1:0 2:0", 1);
    once("lmh/oo/0:0 1:0 1:1 2:1", "flat 1 first;", "lmh/oo/1:0 2:1", 2);
    once("lmh/oo/0:0 1:0 1:1 2:1", "flat 1 last;", "lmh/oo/0:0 1:1", 2);
    nothing("lmh/o/0:0 1:0 2:0", "flat 3 last;");
    nothing("lmh/o/", "flat 1 first;");
  }

  private static void fill() {
    once("/ooo/", "fill mid;", "mmm/ooo/0:0 1:1 2:2", 6);
    once("h/ooo/0:1", "fill low;", "lhl/ooo/0:0 1:1 2:2", 4);
    once("hm/oo/0:0", "fill low;", "hlm/oo/0:0 1:1", 2);
    once("mh/oo/1:0", "fill low;", "mhl/oo/1:0 2:1", 2);
    once("mh/oo/1:1", "fill low;", "lmh/oo/0:0 2:1", 2);
    once("h/oooo/0:0 0:2", "fill low;", "hl/oooo/0:0 0:2 1:3", 2);
    once("mmmmmmmmmmm/oo/", "fill low;", "lmmmmmmmmmmm/oo/0:0", 2);
    nothing("h/ooo/0:0 0:2", "fill mid;");
    nothing("hhhhhhhhhhhh/o/", "fill low;");
    nothing("h//", "fill low;");
    nothing("h/o/0:0", "fill high;");
  }

  private static void tests() {
    String word = "hlm/oOo/0:0 1:1 2:2";
    once(word, "cut any first if begin;", "hlm/oOo/1:1 2:2", 1);
    once(word, "cut any first if not begin;", "hlm/oOo/0:0", 2);
    once(word, "cut any first if end;", "hlm/oOo/0:0 1:1", 1);
    once(word, "cut any first if not end;", "hlm/oOo/2:2", 2);
    once(word, "cut any first if heavy;", "hlm/oOo/0:0 2:2", 1);
    once(word, "cut any first if not heavy;", "hlm/oOo/1:1", 2);
    once(word, "cut any first if before low;", "hlm/oOo/1:1 2:2", 1);
    once(word, "cut any first if before any;", "hlm/oOo/2:2", 2);
    once(word, "cut any first if not before any;", "hlm/oOo/0:0 1:1", 1);
    once(word, "cut any first if after low;", "hlm/oOo/0:0 1:1", 1);
    once(word, "cut any first if after any;", "hlm/oOo/0:0", 2);
    once(word, "cut any first if not after high;", "hlm/oOo/1:1", 2);
    once(word, "cut any first if not many;", "hlm/oOo/", 3);
    once("h/Oo/0:0", "cut any first if heavy;", "h/Oo/", 1);
    once("h/oO/0:0 0:1", "cut any first if heavy;", "h/oO/0:1", 1);
    nothing("h/Oo/0:0 0:1", "cut any first if heavy;");
    nothing("h/oo/0:0", "cut any first if end;");
    nothing("h/oo/0:1", "cut any first if begin;");
    nothing("h/oo/0:1", "cut any first if many;");
    nothing("h/O/", "drop any if begin;");
    nothing("h/O/", "drop any if end;");
    nothing("h/O/", "drop any if heavy;");
    nothing("h//", "drop any if end;");
    once("h/O/", "drop any if not begin;", "/O/", 1);
    once("h/O/", "drop any if not end;", "/O/", 1);
    once("h/O/", "drop any if not heavy;", "/O/", 1);
    once("h/O/", "drop any if float;", "/O/", 1);
    // Asked once, at its turn: what it does then does not end it.
    once("h/oooo/0:0", "spread any right 9 if not many;", "h/oooo/0:0 0:1 0:2 0:3", 3);
  }

  private static void passes() {
    Check.becomes("h/ooo/0:0 0:1 0:2", "again cut any first;", "h/ooo/", 3, 4);
    Check.becomes("h/ooo/0:0", "again shift any right;", "h/ooo/0:2", 4, 3);
    Check.becomes("hl/ooo/", "again link right;", "hl/ooo/0:0 1:1", 2, 2);
    Check.becomes("h/ooo/0:0", "again spread any right 1 if not many;", "h/ooo/0:0 0:1", 1, 2);
    Check.becomes("hhh//", "again turn high to low;", "hlh//", 1, 2);
    Check.becomes("hh/oooo/0:0 1:1", "again shift any right;", "hh/oooo/0:2 1:3", 8, 4);
    // TONE 11 less j is at its place by PASS 11 and j; the 21st, for TONE 1, never comes.
    StringBuilder from = new StringBuilder("hhhhhhhhhhhh/oooooooooooo/");
    StringBuilder to = new StringBuilder("hhhhhhhhhhhh/oooooooooooo/0:0 1:0");
    for (int t = 0; t < 12; t++) from.append(t + ":0 ");
    for (int t = 2; t < 12; t++) to.append(" " + t + ":" + t);
    Check.becomes(from.toString().trim(), "again shift any right;", to.toString(), 130, 20);
  }
}
