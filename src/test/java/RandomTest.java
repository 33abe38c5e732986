import java.util.Random;

/** Runs of calls by chance, with fixed seeds: ToneLines answers as Model does. */
public final class RandomTest {
  private static final String[] K = {"low", "mid", "high", "any"};
  private static final String[] SIDE = {"right", "left"};
  private static final String[] END = {"first", "last"};
  private static final String[] TEST = {"begin", "end", "heavy", "many", "float", "before ", "after "};

  private final Random chance;
  private final int seed;
  private ToneLines x = new ToneLines();
  private Model m = new Model();

  private RandomTest(int seed) {
    this.seed = seed;
    chance = new Random(seed);
  }

  public static void main(String[] args) {
    int runs = args.length > 0 ? Integer.parseInt(args[0]) : 300;
    for (int seed = 1; seed <= runs && Check.wrong < 20; seed++) new RandomTest(seed).run();
    Check.end("RandomTest");
  }

  private int below(int n) { return chance.nextInt(n); }

  private String of(String... all) { return all[below(all.length)]; }

  private String gap() { return " ".repeat(below(8) == 0 ? 1 + below(2) : 0); }

  private String gap1() { return " " + gap(); }

  private void run() {
    for (int calls = 0; calls < 480;) {
      int kind = below(100);
      if (kind < 5) calls += tell(true);
      else if (kind < 10) calls += tell(false);
      else if (kind < 55) calls += byHand();
      else if (kind < 92) calls += asked();
      else if (kind < 99) calls += ofRules();
      else calls += dear();
    }
  }

  private void due(String call, long got, long want) {
    String where = got == want ? call
        : "seed " + seed + ", word " + m.word.text() + ", " + m.rules.size() + " rules: " + call;
    Check.due(where, got, want);
  }

  private void due(String call, boolean got, boolean want) { due(call, got ? 1 : 0, want ? 1 : 0); }

  // ---- texts

  private int tell(boolean word) {
    String text = word ? wordText() : rulesText();
    if (below(4) == 0) text = spoiled(text);
    byte[] bytes = text.getBytes(java.nio.charset.StandardCharsets.ISO_8859_1);
    int calls = 2;
    for (int from = 0; from < bytes.length; from += 20, calls++) {
      int[] f = Check.five(bytes, from);
      due("feed", x.feed(f[0], f[1], f[2], f[3], f[4]), m.feed(f[0], f[1], f[2], f[3], f[4]));
    }
    int over = (20 - bytes.length % 20) % 20;
    due("back " + over, x.back(over), m.back(over));
    String call = (word ? "word of '" : "rules of '") + m.tape + "'";
    if (word) due(call, x.word(), m.word());
    else due(call, x.rules(), m.rules());
    compareAll();
    return calls;
  }

  private String wordText() {
    StringBuilder b = new StringBuilder(gap());
    int tones = below(6) == 0 ? 12 + below(2) : below(8);
    int syllables = below(6) == 0 ? 12 + below(2) : below(8);
    for (int i = 0; i < tones; i++) b.append(of("l", "m", "h")).append(gap());
    b.append('/').append(gap());
    for (int i = 0; i < syllables; i++) {
      b.append(below(6) == 0 ? "-" : "").append(gap()).append(of("o", "o", "O")).append(gap());
    }
    b.append('/').append(gap());
    int t = 0;
    int s = 0;
    String between = "";
    while (t < tones && s < syllables && b.length() < 280) {
      if (below(3) > 0) {
        b.append(between).append(number(t)).append(gap()).append(':').append(gap()).append(number(s));
        between = gap1();
        if (below(40) == 0) continue;
        if (below(2) == 0) s++;
        else t++;
      }
      if (below(3) == 0) t++;
      if (below(3) == 0) s++;
    }
    return b.append(gap()).toString();
  }

  private String number(int n) { return (n < 10 && below(8) == 0 ? "0" : "") + n; }

  private String rulesText() {
    StringBuilder b = new StringBuilder(gap());
    int many = below(12) == 0 ? 9 : below(3) == 0 ? below(9) : below(5);
    for (int i = 0; i < many; i++) b.append(ruleText()).append(gap()).append(';').append(gap());
    return b.toString();
  }

  private String ruleText() {
    StringBuilder b = new StringBuilder(below(4) == 0 ? "again" + gap1() : "");
    String k = gap1() + of(K);
    int verb = below(10);
    switch (verb) {
      case 0 -> b.append("link").append(gap1()).append(of(SIDE));
      case 1 -> b.append("spread").append(k).append(gap1()).append(of(SIDE)).append(gap1()).append(1 + below(9));
      case 2 -> b.append("shift").append(k).append(gap1()).append(of(SIDE));
      case 3 -> b.append("cut").append(k).append(gap1()).append(of(END));
      case 4 -> b.append("dock").append(k).append(gap1()).append(of(SIDE));
      case 5 -> b.append("drop").append(k);
      case 6 -> b.append("fuse").append(k);
      case 7 -> b.append("turn").append(k).append(gap1()).append("to").append(gap1()).append(K[below(3)]);
      case 8 -> b.append("flat").append(gap1()).append(1 + below(3)).append(gap1()).append(of(END));
      default -> b.append("fill").append(gap1()).append(K[below(3)]);
    }
    if (verb > 0 && verb < 8 && below(3) == 0) {
      b.append(gap1()).append("if").append(gap1()).append(below(3) == 0 ? "not" + gap1() : "");
      String test = of(TEST);
      b.append(test).append(test.endsWith(" ") ? of(K) : "");
    }
    return b.toString();
  }

  private String spoiled(String text) {
    StringBuilder b = new StringBuilder(text);
    for (int i = 1 + below(2); i > 0 && b.length() > 0; i--) {
      int at = below(b.length());
      String signs = " /-oOlmh0123456789:;abegikntxZ\u00e9\n";
      char sign = signs.charAt(below(signs.length()));
      switch (below(4)) {
        case 0 -> b.setCharAt(at, sign);
        case 1 -> b.insert(at, sign);
        case 2 -> b.deleteCharAt(at);
        default -> b.setLength(at);
      }
    }
    return b.toString();
  }

  // ---- calls

  private int number() {
    int[] odd = {-1, -2, 12, 13, 100, Integer.MAX_VALUE, Integer.MIN_VALUE};
    return below(12) == 0 ? odd[below(odd.length)] : below(12);
  }

  private int place(int many) { return below(6) == 0 ? number() : below(many + 1); }

  private int byHand() {
    int t = place(m.word.tones.size());
    int s = place(m.word.syllables.size());
    int k = below(8) == 0 ? number() : below(3);
    int n = place(m.rules.size());
    boolean a = chance.nextBoolean();
    boolean b = below(4) == 0;
    switch (below(13)) {
      case 0, 1 -> due("line " + t + " " + s, x.line(t, s), m.line(t, s));
      case 2 -> due("cut " + t + " " + s, x.cut(t, s), m.cut(t, s));
      case 3 -> due("tone " + t + " " + k, x.tone(t, k), m.tone(t, k));
      case 4 -> due("hush " + t, x.hush(t), m.hush(t));
      case 5 -> due("turn " + t + " " + k, x.turn(t, k), m.turn(t, k));
      case 6 -> due("grow", x.grow(a, b), m.grow(a, b));
      case 7 -> due("shrink", x.shrink(), m.shrink());
      case 8 -> due("mark " + s, x.mark(s, a, b), m.mark(s, a, b));
      case 9 -> due("does " + n, x.does(n), m.does(n));
      case 10 -> due("derive " + n, x.derive(n), m.derive(n));
      default -> due("undo", x.undo(), m.undo());
    }
    due("count 1", x.count(1), m.count(1));
    int size = x.spell(0, -1);
    String text = m.word.text();
    due("spell 0 -1", size, text.length());
    for (int i = 0; i < size; i++) due("spell 0 " + i, x.spell(0, i), i < text.length() ? text.charAt(i) : -1);
    return 2;
  }

  private int asked() {
    int n = place(m.rules.size());
    int t = place(12);
    int s = place(12);
    int what = place(9);
    switch (below(6)) {
      case 0 -> due("has " + n + " " + what, x.has(n, what), m.has(n, what));
      case 1 -> due("toneAt " + n + " " + t + " " + what, x.toneAt(n, t, what), m.toneAt(n, t, what));
      case 2 -> due("syllableAt " + n + " " + s + " " + what, x.syllableAt(n, s, what), m.syllableAt(n, s, what));
      case 3 -> due("linesOf " + n + " " + t, x.linesOf(n, t), m.linesOf(n, t));
      case 4 -> due("open " + n + " " + t + " " + s, x.open(n, t, s), m.open(n, t, s));
      default -> {
        int i = below(60) - 2;
        due("spell " + n + " " + i, x.spell(n, i), m.spell(n, i));
      }
    }
    return 1;
  }

  private int ofRules() {
    int r = place(m.rules.size());
    int what = place(8);
    int few = place(2);
    switch (below(6)) {
      case 0 -> due("rule " + r + " " + what, x.rule(r, what), m.rule(r, what));
      case 1 -> due("done " + r + " " + few, x.done(r, few), m.done(r, few));
      case 2 -> due("exchanged " + r, x.exchanged(r), m.exchanged(r));
      case 3 -> due("needed", x.needed(), m.needed());
      case 4 -> due("count " + few, x.count(few), m.count(few));
      default -> due("count 3", x.count(3), m.count(3));
    }
    return 1;
  }

  private int dear() {
    int what = below(3) == 0 ? number() : below(2);
    int n = below(6) == 0 ? number() : below(5);
    switch (below(3)) {
      case 0 -> due("orders " + what, x.orders(what), m.orders(what));
      case 1 -> due("sources " + n, x.sources(n), m.sources(n));
      default -> due("source " + n, x.source(n), m.source(n));
    }
    return 1;
  }

  /** Every answer there is, but for the dear ones. */
  private void compareAll() {
    for (int n = -1; n <= m.rules.size() + 1; n++) {
      for (int what = -1; what < 10; what++) due("has " + n + " " + what, x.has(n, what), m.has(n, what));
      int size = m.spell(n, -1);
      for (int i = -2; i <= size; i++) due("spell " + n + " " + i, x.spell(n, i), m.spell(n, i));
      for (int what = -1; what < 9; what++) due("rule " + n + " " + what, x.rule(n, what), m.rule(n, what));
      for (int what = -1; what < 3; what++) due("done " + n + " " + what, x.done(n, what), m.done(n, what));
      due("exchanged " + n, x.exchanged(n), m.exchanged(n));
    }
    due("needed", x.needed(), m.needed());
    due("count 3", x.count(3), m.count(3));
  }
}
