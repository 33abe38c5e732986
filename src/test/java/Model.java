import java.util.ArrayDeque;
import java.util.ArrayList;
import java.util.Deque;
import java.util.HashSet;
import java.util.List;
import java.util.Set;
import java.util.TreeSet;
import java.util.regex.Matcher;
import java.util.regex.Pattern;

/**
 * The document once more, written without regard to speed or room and with the whole Java library:
 * lists of tones as objects, nothing kept between two calls. RandomTest compares ToneLines with it.
 */
final class Model {
  static final class Tone {
    int kind;
    final TreeSet<Integer> to = new TreeSet<>();
    Tone(int kind) { this.kind = kind; }
  }

  record Syllable(boolean heavy, boolean edge) { }

  static final class Word {
    final List<Tone> tones = new ArrayList<>();
    final List<Syllable> syllables = new ArrayList<>();

    Word copy() {
      Word w = new Word();
      for (Tone t : tones) {
        Tone u = new Tone(t.kind);
        u.to.addAll(t.to);
        w.tones.add(u);
      }
      w.syllables.addAll(syllables);
      return w;
    }

    List<int[]> lines() {
      List<int[]> all = new ArrayList<>();
      for (int t = 0; t < tones.size(); t++) for (int s : tones.get(t).to) all.add(new int[] {t, s});
      return all;
    }

    boolean crosses(int t, int s) {
      for (int[] l : lines()) {
        if (l[0] < t && l[1] > s || l[0] > t && l[1] < s) return true;
      }
      return false;
    }

    boolean open(int t, int s) { return !tones.get(t).to.contains(s) && !crosses(t, s); }

    boolean bare(int s) {
      for (Tone t : tones) if (t.to.contains(s)) return false;
      return true;
    }

    List<Integer> of(int s) {
      List<Integer> all = new ArrayList<>();
      for (int t = 0; t < tones.size(); t++) if (tones.get(t).to.contains(s)) all.add(t);
      return all;
    }

    String read() {
      StringBuilder b = new StringBuilder();
      for (int s = 0; s < syllables.size(); s++) {
        for (int t : of(s)) b.append("lmh".charAt(tones.get(t).kind));
        b.append('.');
      }
      return b.toString();
    }

    boolean fall(int t) {
      if (tones.get(t).kind != 2) return false;
      int high = -1;
      for (int u = 0; u < t; u++) if (tones.get(u).kind == 2) high = u;
      if (high < 0) return false;
      for (int u = high + 1; u < t; u++) if (tones.get(u).kind == 0) return true;
      return false;
    }

    int falls(int upTo) {
      int n = 0;
      for (int t = 0; t <= upTo; t++) if (fall(t)) n++;
      return n;
    }

    String text() {
      StringBuilder b = new StringBuilder();
      for (Tone t : tones) b.append("lmh".charAt(t.kind));
      b.append('/');
      for (Syllable s : syllables) b.append(s.edge ? "-" : "").append(s.heavy ? 'O' : 'o');
      b.append('/');
      String gap = "";
      for (int[] l : lines()) {
        b.append(gap).append(l[0]).append(':').append(l[1]);
        gap = " ";
      }
      return b.toString();
    }
  }

  static final class Fault extends RuntimeException {
    private static final long serialVersionUID = 1L;
    final int at;
    Fault(int at) { this.at = at; }
  }

  /** A RULE as its pieces: the verb and what follows it. */
  static final class Rule {
    boolean again, not;
    String verb = "", kind = "", second = "", side = "", test = "", testKind = "";
    int n = -2;
  }

  static int kindNumber(String k) { return List.of("low", "mid", "high", "any").indexOf(k); }

  Word word = new Word();
  List<Rule> rules = new ArrayList<>();
  final StringBuilder tape = new StringBuilder();
  final Deque<Word> acts = new ArrayDeque<>();
  int changes, passes;

  int feed(int a, int b, int c, int d, int e) {
    if (tape.length() > 280) return -1;
    for (int v : new int[] {a, b, c, d, e}) {
      for (int k = 3; k >= 0; k--) tape.append((char) (v >>> 8 * k & 255));
    }
    return tape.length();
  }

  int back(int n) {
    if (n < 0 || n > tape.length()) return -1;
    tape.setLength(tape.length() - n);
    return tape.length();
  }

  int word() {
    String text = tape.toString();
    tape.setLength(0);
    try {
      word = wordOf(text);
      acts.clear();
      return word.tones.size();
    } catch (Fault f) {
      return -4 - f.at;
    }
  }

  static Word wordOf(String text) {
    Word w = new Word();
    int at = 0;
    int part = 0;
    boolean edge = false;
    for (; part < 2; at++) {
      if (at >= text.length()) throw new Fault(text.length());
      char c = text.charAt(at);
      if (c == ' ') continue;
      if (c == '/') {
        if (edge) throw new Fault(at);
        part++;
      } else if (part == 0) {
        if ("lmh".indexOf(c) < 0 || w.tones.size() == 12) throw new Fault(at);
        w.tones.add(new Tone("lmh".indexOf(c)));
      } else if (c == '-') {
        if (edge) throw new Fault(at);
        edge = true;
      } else {
        if ("oO".indexOf(c) < 0 || w.syllables.size() == 12) throw new Fault(at);
        w.syllables.add(new Syllable(c == 'O', edge));
        edge = false;
      }
    }
    linesOf(text, at, w);
    return w;
  }

  static void linesOf(String text, int from, Word w) {
    Pattern number = Pattern.compile("[0-9]{1,2}");
    int at = from;
    while (true) {
      at = blanks(text, at);
      if (at == text.length()) return;
      int start = at;
      int[] pair = new int[2];
      for (int i = 0; i < 2; i++) {
        Matcher m = number.matcher(text);
        if (!m.find(at) || m.start() != at) throw new Fault(at);
        pair[i] = Integer.parseInt(m.group());
        if (pair[i] >= (i == 0 ? w.tones.size() : w.syllables.size())) throw new Fault(at);
        at = m.end();
        if (i == 0) {
          at = blanks(text, at);
          if (at == text.length() || text.charAt(at) != ':') throw new Fault(at);
          at = blanks(text, at + 1);
          if (at == text.length()) throw new Fault(at);
        }
      }
      if (!w.open(pair[0], pair[1])) throw new Fault(start);
      w.tones.get(pair[0]).to.add(pair[1]);
      if (at < text.length() && text.charAt(at) != ' ') throw new Fault(at);
    }
  }

  static int blanks(String text, int from) {
    int at = from;
    while (at < text.length() && text.charAt(at) == ' ') at++;
    return at;
  }

  int rules() {
    String text = tape.toString();
    tape.setLength(0);
    try {
      rules = rulesOf(text);
      return rules.size();
    } catch (Fault f) {
      return -4 - f.at;
    }
  }

  /** The pieces of a TEXT that are left to be read. */
  static final class Pieces {
    final List<String> piece = new ArrayList<>();
    final List<Integer> at = new ArrayList<>();
    int next = 0;

    Pieces(String text) {
      Matcher m = Pattern.compile("[a-z]+|[^ ]", Pattern.DOTALL).matcher(text);
      int end = -1;
      while (m.find()) {
        boolean part = m.group().matches("[a-z]+|[0-9]");
        boolean joined = part && m.start() == end;
        piece.add(joined ? "?" : m.group());
        at.add(m.start());
        end = part ? m.end() : -1;
      }
      piece.add("end of text");
      at.add(text.length());
    }

    String peek() { return piece.get(next); }

    boolean over() { return next == piece.size() - 1; }

    Fault fault() { return new Fault(at.get(next)); }

    boolean takes(String s) {
      if (!peek().equals(s)) return false;
      next++;
      return true;
    }

    String one(String... of) {
      for (String s : of) if (takes(s)) return s;
      throw fault();
    }
  }

  static final String[] K = {"low", "mid", "high", "any"};
  static final String[] PLAIN = {"low", "mid", "high"};

  static List<Rule> rulesOf(String text) {
    List<Rule> all = new ArrayList<>();
    Pieces p = new Pieces(text);
    while (!p.over()) {
      if (all.size() == 8) throw p.fault();
      Rule r = new Rule();
      r.again = p.takes("again");
      r.verb = p.one("link", "spread", "shift", "cut", "dock", "drop", "fuse", "turn", "flat", "fill");
      boolean mayIf = true;
      switch (r.verb) {
        case "link" -> { r.side = p.one("right", "left"); mayIf = false; }
        case "spread" -> { r.kind = p.one(K); r.side = p.one("right", "left"); r.n = n(p); }
        case "shift", "dock" -> { r.kind = p.one(K); r.side = p.one("right", "left"); }
        case "cut" -> { r.kind = p.one(K); r.side = p.one("first", "last"); }
        case "drop", "fuse" -> r.kind = p.one(K);
        case "turn" -> { r.kind = p.one(K); p.one("to"); r.second = p.one(PLAIN); }
        case "flat" -> { r.n = n(p); r.side = p.one("first", "last"); mayIf = false; }
        default -> { r.kind = p.one(PLAIN); mayIf = false; }
      }
      if (mayIf && p.takes("if")) {
        r.not = p.takes("not");
        r.test = p.one("begin", "end", "heavy", "many", "float", "before", "after");
        if (r.test.equals("before") || r.test.equals("after")) r.testKind = p.one(K);
      }
      p.one(";");
      all.add(r);
    }
    return all;
  }

  static int n(Pieces p) { return Integer.parseInt(p.one("1", "2", "3", "4", "5", "6", "7", "8", "9")); }

  // ---- by hand

  private void act(Word next) {
    acts.addLast(word);
    if (acts.size() > 12) acts.removeFirst();
    word = next;
  }

  private boolean isTone(Word w, int t) { return t >= 0 && t < w.tones.size(); }

  private boolean isSyllable(Word w, int s) { return s >= 0 && s < w.syllables.size(); }

  boolean line(int t, int s) {
    if (!isTone(word, t) || !isSyllable(word, s) || !word.open(t, s)) return false;
    Word w = word.copy();
    w.tones.get(t).to.add(s);
    act(w);
    return true;
  }

  boolean cut(int t, int s) {
    if (!isTone(word, t) || !word.tones.get(t).to.contains(s)) return false;
    Word w = word.copy();
    w.tones.get(t).to.remove(s);
    act(w);
    return true;
  }

  boolean tone(int t, int kind) {
    if (t < 0 || t > word.tones.size() || kind < 0 || kind > 2 || word.tones.size() == 12) return false;
    Word w = word.copy();
    w.tones.add(t, new Tone(kind));
    act(w);
    return true;
  }

  boolean hush(int t) {
    if (!isTone(word, t)) return false;
    Word w = word.copy();
    w.tones.remove(t);
    act(w);
    return true;
  }

  int turn(int t, int kind) {
    if (!isTone(word, t) || kind < 0 || kind > 2 || word.tones.get(t).kind == kind) return -1;
    int was = word.tones.get(t).kind;
    Word w = word.copy();
    w.tones.get(t).kind = kind;
    act(w);
    return was;
  }

  boolean grow(boolean heavy, boolean edge) {
    if (word.syllables.size() == 12) return false;
    Word w = word.copy();
    w.syllables.add(new Syllable(heavy, edge));
    act(w);
    return true;
  }

  boolean shrink() {
    if (word.syllables.isEmpty()) return false;
    Word w = word.copy();
    int s = w.syllables.size() - 1;
    w.syllables.remove(s);
    for (Tone t : w.tones) t.to.remove(s);
    act(w);
    return true;
  }

  boolean mark(int s, boolean heavy, boolean edge) {
    if (!isSyllable(word, s) || word.syllables.get(s).equals(new Syllable(heavy, edge))) return false;
    Word w = word.copy();
    w.syllables.set(s, new Syllable(heavy, edge));
    act(w);
    return true;
  }

  int does(int r) {
    if (r < 0 || r >= rules.size()) return -1;
    Word w = word.copy();
    perform(rules.get(r), w);
    if (changes > 0) act(w);
    return changes;
  }

  int derive(int n) {
    if (n < 0 || n > rules.size()) return -1;
    Word w = word.copy();
    int all = 0;
    for (int r = 0; r < n; r++) {
      perform(rules.get(r), w);
      all += changes;
    }
    if (all > 0) act(w);
    return all;
  }

  int undo() {
    if (acts.isEmpty()) return -1;
    word = acts.removeLast();
    return acts.size();
  }

  // ---- rules done

  void perform(Rule r, Word w) {
    changes = 0;
    passes = 0;
    int before;
    do {
      before = changes;
      pass(r, w);
      passes++;
    } while (r.again && changes != before && passes < 20);
  }

  private void put(Word w, Tone t, int s) {
    t.to.add(s);
    changes++;
  }

  private void pass(Rule r, Word w) {
    int size = w.syllables.size();
    boolean left = r.side.equals("left");
    switch (r.verb) {
      case "link" -> {
        for (int i = 0; i < size; i++) link(w, left ? size - 1 - i : i, left);
      }
      case "flat" -> {
        for (int s = 0; s < size; s++) {
          while (w.of(s).size() > r.n) {
            List<Integer> of = w.of(s);
            w.tones.get(of.get(r.side.equals("first") ? 0 : of.size() - 1)).to.remove(s);
            changes++;
          }
        }
      }
      case "fill" -> {
        for (int s = 0; s < size; s++) if (w.bare(s)) fill(w, s, kindNumber(r.kind));
      }
      default -> {
        List<Tone> turns = new ArrayList<>(w.tones);
        if (left) java.util.Collections.reverse(turns);
        for (Tone t : turns) {
          int place = w.tones.indexOf(t);
          if (place >= 0 && is(t, r.kind) && (r.test.isEmpty() || holds(r, w, t, place) != r.not)) {
            onTone(r, w, t, place, left);
          }
        }
      }
    }
  }

  private static boolean is(Tone t, String k) { return k.equals("any") || kindNumber(k) == t.kind; }

  private static boolean holds(Rule r, Word w, Tone t, int place) {
    return switch (r.test) {
      case "begin" -> t.to.contains(0);
      case "end" -> t.to.contains(w.syllables.size() - 1);
      case "heavy" -> !t.to.isEmpty() && w.syllables.get(t.to.last()).heavy;
      case "many" -> t.to.size() > 1;
      case "float" -> t.to.isEmpty();
      case "before" -> place + 1 < w.tones.size() && is(w.tones.get(place + 1), r.testKind);
      default -> place > 0 && is(w.tones.get(place - 1), r.testKind);
    };
  }

  private void link(Word w, int s, boolean left) {
    if (!w.bare(s)) return;
    int n = w.tones.size();
    for (int i = 0; i < n; i++) {
      int t = left ? n - 1 - i : i;
      if (w.tones.get(t).to.isEmpty() && w.open(t, s)) {
        put(w, w.tones.get(t), s);
        return;
      }
    }
  }

  private void fill(Word w, int s, int kind) {
    if (w.tones.size() == 12) return;
    int place = 0;
    for (int[] l : w.lines()) if (l[1] < s) place = Math.max(place, l[0] + 1);
    Tone t = new Tone(kind);
    w.tones.add(place, t);
    if (w.crosses(place, s)) {
      w.tones.remove(place);
      return;
    }
    changes++;
    put(w, t, s);
  }

  private void onTone(Rule r, Word w, Tone t, int place, boolean left) {
    switch (r.verb) {
      case "spread" -> spread(w, t, place, left, r.n);
      case "shift" -> {
        if (t.to.isEmpty()) return;
        int was = left ? t.to.first() : t.to.last();
        if (spread(w, t, place, left, 1)) {
          t.to.remove(was);
          changes++;
        }
      }
      case "cut" -> {
        if (t.to.isEmpty()) return;
        t.to.remove(r.side.equals("first") ? t.to.first() : t.to.last());
        changes++;
      }
      case "dock" -> {
        if (!t.to.isEmpty()) return;
        for (int u = place; u >= 0 && u < w.tones.size(); u += left ? -1 : 1) {
          TreeSet<Integer> to = w.tones.get(u).to;
          if (to.isEmpty()) continue;
          int s = left ? to.last() : to.first();
          if (w.open(place, s)) put(w, t, s);
          return;
        }
      }
      case "drop" -> {
        if (!t.to.isEmpty()) return;
        w.tones.remove(place);
        changes++;
      }
      case "fuse" -> {
        while (place + 1 < w.tones.size() && w.tones.get(place + 1).kind == t.kind) {
          for (int s : w.tones.remove(place + 1).to) if (!t.to.contains(s)) put(w, t, s);
          changes++;
        }
      }
      default -> {
        if (place == 0 || w.tones.get(place - 1).kind != t.kind) return;
        if (t.kind == kindNumber(r.second)) return;
        t.kind = kindNumber(r.second);
        changes++;
      }
    }
  }

  private boolean spread(Word w, Tone t, int place, boolean left, int times) {
    if (t.to.isEmpty()) return false;
    int i = 0;
    for (; i < times; i++) {
      int end = left ? t.to.first() : t.to.last();
      int s = left ? end - 1 : end + 1;
      if (s < 0 || s >= w.syllables.size() || !w.bare(s) || !w.open(place, s)) break;
      if (w.syllables.get(left ? end : s).edge) break;
      put(w, t, s);
    }
    return i > 0;
  }

  // ---- asked

  private Word by(int n) {
    Word w = word.copy();
    for (int r = 0; r < n; r++) perform(rules.get(r), w);
    return w;
  }

  private boolean none(int n) { return n < 0 || n > rules.size(); }

  int has(int n, int what) {
    if (none(n)) return -1;
    Word w = by(n);
    int bits = 0;
    int most = 0;
    switch (what) {
      case 0: return w.tones.size();
      case 1: return w.syllables.size();
      case 2: return w.lines().size();
      case 3:
        for (int t = 0; t < w.tones.size(); t++) if (w.tones.get(t).to.isEmpty()) bits += 1 << t;
        return bits;
      case 4:
        for (int s = 0; s < w.syllables.size(); s++) if (w.bare(s)) bits += 1 << s;
        return bits;
      case 5: return w.falls(w.tones.size() - 1);
      case 6:
        for (int s = 0; s < w.syllables.size(); s++) most = Math.max(most, w.of(s).size());
        return most;
      case 7:
        for (Tone t : w.tones) most = Math.max(most, t.to.size());
        return most;
      case 8:
        while (most < w.syllables.size() && !w.bare(most)) most++;
        return most;
      default: return -1;
    }
  }

  int toneAt(int n, int tone, int what) {
    if (none(n)) return -1;
    Word w = by(n);
    if (!isTone(w, tone)) return what == 4 ? -100 : -1;
    Tone t = w.tones.get(tone);
    return switch (what) {
      case 0 -> t.kind;
      case 1 -> t.to.isEmpty() ? -2 : t.to.first();
      case 2 -> t.to.isEmpty() ? -2 : t.to.last();
      case 3 -> t.to.size();
      case 4 -> new int[] {3, 6, 9}[t.kind] - w.falls(tone);
      default -> -1;
    };
  }

  int syllableAt(int n, int s, int what) {
    if (none(n)) return -1;
    Word w = by(n);
    if (!isSyllable(w, s)) return -1;
    List<Integer> of = w.of(s);
    switch (what) {
      case 0: return w.syllables.get(s).heavy ? 1 : 0;
      case 1: return w.syllables.get(s).edge ? 1 : 0;
      case 2: return of.size();
      case 3: return of.isEmpty() ? -2 : of.get(0);
      case 4: return of.isEmpty() ? -2 : of.get(of.size() - 1);
      case 5:
        int read = 0;
        for (int i = 0; i < of.size(); i++) read += (w.tones.get(of.get(i)).kind + 1) * (int) Math.pow(4, i);
        return read;
      default: return -1;
    }
  }

  int linesOf(int n, int tone) {
    if (none(n)) return -1;
    Word w = by(n);
    if (!isTone(w, tone)) return -1;
    int bits = 0;
    for (int s : w.tones.get(tone).to) bits += 1 << s;
    return bits;
  }

  int open(int n, int tone, int s) {
    if (none(n)) return -1;
    Word w = by(n);
    if (!isTone(w, tone) || !isSyllable(w, s)) return -1;
    return w.open(tone, s) ? 1 : 0;
  }

  int spell(int n, int i) {
    if (none(n)) return -1;
    String text = by(n).text();
    return i == -1 ? text.length() : i < -1 || i >= text.length() ? -1 : text.charAt(i);
  }

  // ---- of rules

  int rule(int rule, int what) {
    if (rule < 0 || rule >= rules.size()) return -1;
    Rule r = rules.get(rule);
    return switch (what) {
      case 0 -> List.of("link", "spread", "shift", "cut", "dock", "drop", "fuse", "turn", "flat", "fill")
          .indexOf(r.verb);
      case 1 -> r.again ? 1 : 0;
      case 2 -> r.kind.isEmpty() ? -2 : kindNumber(r.kind);
      case 3 -> r.verb.equals("turn") ? kindNumber(r.second) : r.n;
      case 4 -> r.side.isEmpty() ? -2 : r.side.equals("right") || r.side.equals("first") ? 0 : 1;
      case 5 -> r.test.isEmpty() ? -2
          : List.of("begin", "end", "heavy", "many", "float", "before", "after").indexOf(r.test);
      case 6 -> r.not ? 1 : 0;
      case 7 -> r.testKind.isEmpty() ? -2 : kindNumber(r.testKind);
      default -> -1;
    };
  }

  int done(int rule, int what) {
    if (rule < 0 || rule >= rules.size() || what < 0 || what > 1) return -1;
    by(rule + 1);
    return what == 0 ? changes : passes;
  }

  private String readBy(List<Rule> order) {
    Word w = word.copy();
    for (Rule r : order) perform(r, w);
    return w.read();
  }

  int exchanged(int rule) {
    if (rule < 0 || rule >= rules.size() - 1) return -1;
    List<Rule> other = new ArrayList<>(rules);
    java.util.Collections.swap(other, rule, rule + 1);
    return readBy(other).equals(readBy(rules)) ? 0 : 1;
  }

  int needed() {
    int bits = 0;
    for (int r = 0; r < rules.size(); r++) {
      List<Rule> other = new ArrayList<>(rules);
      other.remove(r);
      if (!readBy(other).equals(readBy(rules))) bits += 1 << r;
    }
    return bits;
  }

  int orders(int what) {
    if (what < 0 || what > 1) return -1;
    if (rules.size() > 6) return -2;
    List<String> readings = new ArrayList<>();
    readAll(new ArrayList<>(), readings);
    Set<String> unlike = new HashSet<>(readings);
    String as = readBy(rules);
    return what == 0 ? unlike.size() : (int) readings.stream().filter(as::equals).count();
  }

  private void readAll(List<Rule> order, List<String> readings) {
    if (order.size() == rules.size()) readings.add(readBy(order));
    for (Rule r : rules) {
      if (order.contains(r)) continue;
      order.add(r);
      readAll(order, readings);
      order.remove(order.size() - 1);
    }
  }

  private List<Integer> alike(int n) {
    List<Integer> all = new ArrayList<>();
    String as = readBy(rules);
    int rows = (int) Math.round(Math.pow(3, n));
    for (int row = 0; row < rows; row++) {
      Word w = new Word();
      w.syllables.addAll(word.syllables);
      for (int i = 0, unit = rows / 3; i < n; i++, unit /= 3) w.tones.add(new Tone(row / unit % 3));
      for (Rule r : rules) perform(r, w);
      if (w.read().equals(as)) all.add(row);
    }
    return all;
  }

  int sources(int n) { return n < 0 || n > 6 ? -1 : alike(n).size(); }

  int source(int n) {
    if (n < 0 || n > 6) return -1;
    List<Integer> all = alike(n);
    return all.isEmpty() ? -2 : all.get(0);
  }

  int count(int what) {
    switch (what) {
      case 0: return rules.size();
      case 1: return acts.size();
      case 2: return tape.length();
      case 3:
        int bits = 0;
        for (int r = 0; r < rules.size(); r++) if (done(r, 0) == 0) bits += 1 << r;
        return bits;
      default: return -1;
    }
  }
}
