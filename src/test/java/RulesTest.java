/** Promises 23 to 30: rule, done, exchanged, needed, orders, sources, source, count. */
public final class RulesTest {
  private static final int[] ODD = {-1, -2, 8, 9, 31, 32, Integer.MAX_VALUE, Integer.MIN_VALUE};

  public static void main(String[] args) {
    rule();
    done();
    doneOfTheLast();
    exchanged();
    needed();
    orders();
    sources();
    count();
    keptAnswers();
    keptByEachCall();
    Check.end("RulesTest");
  }

  private static void rule(String text, int... want) {
    ToneLines x = Check.made("h/o/0:0", text);
    for (int what = 0; what < 8; what++) {
      Check.due("rule(0, " + what + ") of '" + text + "'", x.rule(0, what), want[what]);
    }
    Check.due("rule(0, 8)", x.rule(0, 8), -1);
    Check.due("rule(1, 0)", x.rule(1, 0), -1);
    for (int odd : ODD) {
      Check.due("rule(odd, 0)", x.rule(odd, 0), -1);
      Check.due("rule(0, odd)", x.rule(0, odd), -1);
    }
  }

  private static void rule() {
    rule("link right;", 0, 0, -2, -2, 0, -2, 0, -2);
    rule("again link left;", 0, 1, -2, -2, 1, -2, 0, -2);
    rule("spread low right 1 if begin;", 1, 0, 0, 1, 0, 0, 0, -2);
    rule("spread any left 9 if not end;", 1, 0, 3, 9, 1, 1, 1, -2);
    rule("shift mid left if heavy;", 2, 0, 1, -2, 1, 2, 0, -2);
    rule("cut high first if not many;", 3, 0, 2, -2, 0, 3, 1, -2);
    rule("cut high last;", 3, 0, 2, -2, 1, -2, 0, -2);
    rule("dock any right if float;", 4, 0, 3, -2, 0, 4, 0, -2);
    rule("drop low if before mid;", 5, 0, 0, -2, -2, 5, 0, 1);
    rule("again fuse any if not after any;", 6, 1, 3, -2, -2, 6, 1, 3);
    rule("turn high to low;", 7, 0, 2, 0, -2, -2, 0, -2);
    rule("turn any to high if after low;", 7, 0, 3, 2, -2, 6, 0, 0);
    rule("flat 2 first;", 8, 0, -2, 2, 0, -2, 0, -2);
    rule("flat 9 last;", 8, 0, -2, 9, 1, -2, 0, -2);
    rule("fill mid;", 9, 0, 1, -2, -2, -2, 0, -2);
  }

  private static void done() {
    ToneLines x = Check.made("h/oooo/0:0", "shift high right; again shift high right; drop low;");
    int[][] want = {{2, 1}, {4, 3}, {0, 1}};
    for (int r = 0; r < 3; r++) {
      Check.due("done(" + r + ", 0)", x.done(r, 0), want[r][0]);
      Check.due("done(" + r + ", 1)", x.done(r, 1), want[r][1]);
      Check.due("done(" + r + ", 2)", x.done(r, 2), -1);
      Check.due("done(" + r + ", -1)", x.done(r, -1), -1);
    }
    Check.due("done(3, 0)", x.done(3, 0), -1);
    for (int odd : ODD) Check.due("done(odd, 0)", x.done(odd, 0), -1);
    Check.due("the WORD stays", Check.spelled(x, 0), "h/oooo/0:0");
  }

  private static void doneOfTheLast() {
    ToneLines x = Check.made("h/oooo/0:0", "shift high right; again shift high right;");
    Check.due("done(1, 1), asked first", x.done(1, 1), 3);
    Check.due("done(1, 0)", x.done(1, 0), 4);
  }

  private static void exchanged() {
    ToneLines x = Check.made("h/oooo/0:0", "spread high right 2; cut high first; drop low; fill low;");
    Check.due("exchanged(0)", x.exchanged(0), 1);
    Check.due("exchanged(1)", x.exchanged(1), 0);
    Check.due("exchanged(2)", x.exchanged(2), 0);
    Check.due("exchanged(3)", x.exchanged(3), -1);
    for (int odd : ODD) Check.due("exchanged(odd)", x.exchanged(odd), -1);
    x = Check.made("hl/o/0:0", "drop low; dock low left;");
    Check.due("exchanged(0) of drop, dock", x.exchanged(0), 1);
    // Other TONES, but READ alike: they FLOAT.
    x = Check.made("hh/o/", "drop high if after high; turn high to low;");
    Check.due("exchanged(0) of drop, turn", x.exchanged(0), 0);
    // What stands behind the two counts, too: it makes them alike again.
    x = Check.made("h/oo/0:0", "shift high right; cut high last; cut high first;");
    Check.due("exchanged(0), READ alike at the end", x.exchanged(0), 0);
    Check.due("exchanged(-1)", x.exchanged(-1), -1);
    x = Check.made("h/o/", "drop low;");
    Check.due("exchanged(0) of one RULE", x.exchanged(0), -1);
    // Two TONES of a KIND are not READ as one: hh by dock, then fuse; h by fuse alone.
    x = Check.made("hh/o/0:0", "fuse high; dock high left;");
    Check.due("exchanged(0) of fuse, dock", x.exchanged(0), 0);
    x = Check.made("hh/o/0:0", "dock high left; fuse low;");
    Check.due("needed() of dock, fuse", x.needed(), 1);
    // Of which SYLLABLES the KINDS are counts, too.
    x = Check.made("hl/oo/0:0", "dock low left; link right;");
    Check.due("exchanged(0) of dock, link", x.exchanged(0), 1);
  }

  private static void needed() {
    Check.due("needed() of none", Check.made("h/o/", "").needed(), 0);
    ToneLines x = Check.made("h/ooo/0:0", "shift high right; cut high last;");
    Check.due("shift, cut", x.needed(), 2);
    x = Check.made("hl/oooo/", "link right; spread high right 9; fill low;");
    Check.due("link, spread, fill", x.needed(), 5);
    x = Check.made("hl/oo/", "link right; link left;");
    Check.due("either of two does", x.needed(), 0);
    x = Check.made("/o/", "drop low;drop low;drop low;drop low;drop low;drop low;drop low;fill low;");
    Check.due("the last of 8", x.needed(), 128);
  }

  private static void orders(String word, String rules, int unlike, int same) {
    ToneLines x = Check.made(word, rules);
    Check.due("orders(0) of '" + rules + "'", x.orders(0), unlike);
    Check.due("orders(1) of '" + rules + "'", x.orders(1), same);
    Check.due("orders(2)", x.orders(2), -1);
    for (int odd : ODD) Check.due("orders(odd)", x.orders(odd), -1);
  }

  private static void orders() {
    orders("h/o/", "", 1, 1);
    orders("h/o/", "link right;", 1, 1);
    orders("h/oooo/0:0", "spread high right 2; cut high first;", 2, 1);
    orders("h/ooo/0:0", "shift high right; cut high last;", 1, 2);
    orders("hl/oooo/", "link right; spread high right 9; fill low;", 2, 3);
    String five = "drop low;drop low;drop low;drop low;drop low;";
    orders("l//", five + "drop low;", 1, 720);
    // Of link, fill whichever is first links the one SYLLABLE: half of all orders each.
    orders("h/o/", "link right;fill low;drop mid;drop mid;drop mid;drop mid;", 2, 360);
    orders("/o/", "fill low;fill mid;fill high;", 3, 2);
    orders("/o/", "fill high;fill low;fill mid;fill low;fill mid;fill high;", 3, 240);
    orders("/o/", five + "drop low;drop low;", -2, -2);
    orders("/o/", five + "drop low;drop low;drop low;", -2, -2);
  }

  private static void sources(String word, String rules, int n, int many, int first) {
    ToneLines x = Check.made(word, rules);
    String of = n + ") of '" + word + "', '" + rules + "'";
    Check.due("sources(" + of, x.sources(n), many);
    Check.due("source(" + of, x.source(n), first);
    Check.due("the WORD stays", Check.spelled(x, 0), word);
  }

  private static void sources() {
    sources("//", "", 0, 1, 0);
    sources("//", "", 6, 729, 0);
    sources("h/o/", "", 2, 9, 0);
    sources("h/o/0:0", "", 2, 0, -2);
    sources("h/o/0:0", "", 0, 0, -2);
    sources("h/o/", "link right;", 0, 0, -2);
    sources("h/o/", "link right;", 1, 1, 2);
    sources("h/o/", "link right;", 2, 3, 6);
    sources("h/o/", "link right;", 6, 243, 486);
    sources("l/o/", "link right;", 6, 243, 0);
    sources("m/o/", "link left;", 3, 9, 1);
    sources("h/oo/", "link right;", 2, 0, -2);
    sources("hlm/ooo/", "link right;", 3, 1, 19);
    sources("h/oo/0:0 0:1", "link right; spread any right 1;", 1, 1, 2);
    sources("h/o-o/0:0 0:1", "link right; spread any right 1;", 1, 0, -2);
    sources("hh/o/0:0 1:0", "link right; dock any left;", 2, 1, 8);
    sources("/o/", "fill mid;", 0, 1, 0);
    sources("/o/", "link right; fill mid;", 1, 1, 1);
    ToneLines x = Check.made("h/o/", "link right;");
    for (int n : new int[] {-1, 7, 8, 100, Integer.MAX_VALUE, Integer.MIN_VALUE}) {
      Check.due("sources(" + n + ")", x.sources(n), -1);
      Check.due("source(" + n + ")", x.source(n), -1);
    }
  }

  private static void count() {
    ToneLines x = Check.made("h/ooo/0:0", "drop low; spread high right 1; spread high right 9; drop any;");
    x.tone(0, 1);
    x.feed(0, 0, 0, 0, 0);
    x.back(3);
    Check.due("count(0)", x.count(0), 4);
    Check.due("count(1)", x.count(1), 1);
    Check.due("count(2)", x.count(2), 17);
    Check.due("count(3)", x.count(3), 1);
    x.undo();
    Check.due("count(3) behind undo()", x.count(3), 9);
    Check.due("count(4)", x.count(4), -1);
    Check.due("count(-1)", x.count(-1), -1);
    for (int odd : ODD) Check.due("count(odd)", x.count(odd), -1);
    x = Check.made("h/o/", "drop low;drop low;drop low;drop low;drop low;drop low;drop low;drop low;");
    Check.due("count(3) of 8", x.count(3), 255);
  }

  /** Answers are those of the WORD and the RULES as they are, whatever was asked ahead. */
  private static void keptAnswers() {
    ToneLines x = Check.made("h/o/", "link right;fill low;");
    Check.due("orders(1)", x.orders(1), 1);
    Check.due("sources(1)", x.sources(1), 1);
    Check.due("source(1)", x.source(1), 2);
    x.turn(0, 0);
    Check.due("orders(1) of another WORD", x.orders(1), 2);
    Check.due("source(1) of another WORD", x.source(1), 0);
    x.undo();
    Check.due("orders(1) behind undo()", x.orders(1), 1);
    Check.due("source(1) behind undo()", x.source(1), 2);
    Check.rules(x, "fill low;");
    Check.due("orders(1) of other RULES", x.orders(1), 1);
    Check.due("sources(1) of other RULES", x.sources(1), 3);
    Check.word(x, "/oo/");
    Check.due("sources(2) of a WORD told", x.sources(2), 9);
    x.grow(false, false);
    x.shrink();
    x.derive(1);
    Check.due("sources(2) of a WORD derived", x.sources(2), 9);
    Check.due("count(3) of it", x.count(3), 1);
  }

  /** Each call that may change something, and behind it all answers as of a new object told the same. */
  private static void keptByEachCall() {
    String first = "link right; again spread any right 1; fill low; turn low to mid;";
    ToneLines x = Check.made("hl/oo-oO/1:2", first);
    asOfANewOne(x, first);
    boolean[] done = {
      x.line(0, 1), asOfANewOne(x, first), x.cut(0, 1), asOfANewOne(x, first), x.tone(1, 1), asOfANewOne(x, first),
      x.hush(0), asOfANewOne(x, first), x.turn(0, 2) == 1, asOfANewOne(x, first), x.grow(true, false),
      asOfANewOne(x, first), x.shrink(), asOfANewOne(x, first), x.mark(2, true, false), asOfANewOne(x, first),
      x.does(1) > 0, asOfANewOne(x, first), x.undo() == 8, asOfANewOne(x, first), x.derive(3) > 0,
      asOfANewOne(x, first), Check.word(x, "lh/ooo/") == 2, asOfANewOne(x, first),
    };
    for (int i = 0; i < done.length; i++) Check.due("call " + i + " of a row", done[i], true);
    String others = "fill high; link left;";
    Check.due("other RULES", Check.rules(x, others), 2);
    asOfANewOne(x, others);
  }

  private static boolean asOfANewOne(ToneLines x, String rules) {
    String word = Check.spelled(x, 0);
    ToneLines other = Check.made(word, rules);
    int many = other.count(0);
    for (int n = 0; n <= many; n++) {
      Check.due(word + " by " + n, Check.spelled(x, n), Check.spelled(other, n));
      Check.due("done(" + n + ", 0) of " + word, x.done(n, 0), other.done(n, 0));
      Check.due("done(" + n + ", 1) of " + word, x.done(n, 1), other.done(n, 1));
      Check.due("exchanged(" + n + ") of " + word, x.exchanged(n), other.exchanged(n));
      Check.due("sources(" + n + ") of " + word, x.sources(n), other.sources(n));
      Check.due("source(" + n + ") of " + word, x.source(n), other.source(n));
    }
    Check.due("needed() of " + word, x.needed(), other.needed());
    Check.due("count(3) of " + word, x.count(3), other.count(3));
    Check.due("orders(0) of " + word, x.orders(0), other.orders(0));
    Check.due("orders(1) of " + word, x.orders(1), other.orders(1));
    return true;
  }
}
