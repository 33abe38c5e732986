/** Promises 6 to 16: line, cut, tone, hush, turn, grow, shrink, mark, does, derive, undo. */
public final class HandTest {
  private static final int[] ODD = {-1, -2, 12, 31, 32, 33, Integer.MAX_VALUE, Integer.MIN_VALUE};

  public static void main(String[] args) {
    lines();
    cuts();
    tones();
    hushes();
    fullWord();
    turns();
    syllables();
    marks();
    doesARule();
    derives();
    undoes();
    twelveActs();
    Check.end("HandTest");
  }

  private static void state(ToneLines x, String want, int acts) {
    Check.due("the WORD", Check.spelled(x, 0), want);
    Check.due("count(1) of " + want, x.count(1), acts);
  }

  private static void lines() {
    ToneLines x = Check.made("hlm/ooo/1:1", "");
    Check.due("line(0, 2) that crosses", x.line(0, 2), false);
    Check.due("line(2, 0) that crosses", x.line(2, 0), false);
    Check.due("line(1, 1) that is there", x.line(1, 1), false);
    Check.due("line(3, 0)", x.line(3, 0), false);
    Check.due("line(0, 3)", x.line(0, 3), false);
    for (int odd : ODD) {
      Check.due("line(odd, 0)", x.line(odd, 0), false);
      Check.due("line(0, odd)", x.line(0, odd), false);
    }
    state(x, "hlm/ooo/1:1", 0);
    Check.due("line(0, 1)", x.line(0, 1), true);
    Check.due("line(2, 1)", x.line(2, 1), true);
    Check.due("line(1, 0), which crosses now", x.line(1, 0), false);
    Check.due("line(0, 0)", x.line(0, 0), true);
    state(x, "hlm/ooo/0:0 0:1 1:1 2:1", 3);
  }

  private static void cuts() {
    ToneLines x = Check.made("hl/ooo/0:0 0:1 1:2", "");
    Check.due("cut(0, 2)", x.cut(0, 2), false);
    Check.due("cut(2, 0)", x.cut(2, 0), false);
    Check.due("cut(0, 3)", x.cut(0, 3), false);
    for (int odd : ODD) {
      Check.due("cut(odd, 0)", x.cut(odd, 0), false);
      Check.due("cut(0, odd)", x.cut(0, odd), false);
    }
    state(x, "hl/ooo/0:0 0:1 1:2", 0);
    Check.due("cut(0, 0)", x.cut(0, 0), true);
    Check.due("cut(0, 0) again", x.cut(0, 0), false);
    state(x, "hl/ooo/0:1 1:2", 1);
  }

  private static void tones() {
    ToneLines x = Check.made("hl/oo/0:0 1:1", "");
    Check.due("tone(3, 0)", x.tone(3, 0), false);
    Check.due("tone(0, 3)", x.tone(0, 3), false);
    Check.due("tone(0, -1)", x.tone(0, -1), false);
    for (int odd : ODD) {
      Check.due("tone(odd, 0)", x.tone(odd, 0), false);
      Check.due("tone(0, odd)", x.tone(0, odd), false);
    }
    state(x, "hl/oo/0:0 1:1", 0);
    Check.due("tone(1, 1)", x.tone(1, 1), true);
    state(x, "hml/oo/0:0 2:1", 1);
    Check.due("tone(3, 2)", x.tone(3, 2), true);
    Check.due("tone(0, 0)", x.tone(0, 0), true);
    state(x, "lhmlh/oo/1:0 3:1", 3);
    for (int i = 5; i < 12; i++) Check.due("tone " + i, x.tone(i, 1), true);
    Check.due("a 13th tone", x.tone(12, 1), false);
    Check.due("a 13th tone ahead", x.tone(0, 1), false);
    state(x, "lhmlhmmmmmmm/oo/1:0 3:1", 10);
  }

  private static void hushes() {
    ToneLines x = Check.made("hlm/oo/0:0 1:0 1:1 2:1", "");
    Check.due("hush(3)", x.hush(3), false);
    for (int odd : ODD) Check.due("hush(odd)", x.hush(odd), false);
    Check.due("hush(1)", x.hush(1), true);
    state(x, "hm/oo/0:0 1:1", 1);
    Check.due("hush(1)", x.hush(1), true);
    Check.due("hush(0)", x.hush(0), true);
    Check.due("hush(0) of none", x.hush(0), false);
    state(x, "/oo/", 3);
    x.tone(0, 2);
    Check.due("a TONE that comes has no LINES", Check.spelled(x, 0), "h/oo/");
  }

  /** A WORD as full as can be: every call at its last places. */
  private static void fullWord() {
    ToneLines x = Check.made("hhhhhhhhhhhh/oooooooooooo/11:11", "link right; drop any; fill low;");
    Check.due("has(0, 2)", x.has(0, 2), 1);
    Check.due("has(0, 6)", x.has(0, 6), 1);
    Check.due("has(0, 7)", x.has(0, 7), 1);
    Check.due("toneAt(0, 11, 4)", x.toneAt(0, 11, 4), 9);
    Check.due("syllableAt(0, 11, 4)", x.syllableAt(0, 11, 4), 11);
    Check.due("open(0, 10, 11)", x.open(0, 10, 11), 1);
    Check.due("has(3, 2)", x.has(3, 2), 12);
    Check.due("turn(11, 0)", x.turn(11, 0), 2);
    Check.due("mark(11)", x.mark(11, true, true), true);
    Check.due("cut(11, 11)", x.cut(11, 11), true);
    Check.due("line(11, 11)", x.line(11, 11), true);
    Check.due("hush(0)", x.hush(0), true);
    state(x, "hhhhhhhhhhl/ooooooooooo-O/10:11", 5);
    Check.due("undo()", x.undo(), 4);
    Check.due("shrink()", x.shrink(), true);
    state(x, "hhhhhhhhhhhl/ooooooooooo/", 5);
  }

  private static void turns() {
    ToneLines x = Check.made("hlm/o/1:0", "");
    Check.due("turn(0, 2), as it is", x.turn(0, 2), -1);
    Check.due("turn(3, 0)", x.turn(3, 0), -1);
    Check.due("turn(0, 3)", x.turn(0, 3), -1);
    for (int odd : ODD) {
      Check.due("turn(odd, 0)", x.turn(odd, 0), -1);
      Check.due("turn(0, odd)", x.turn(0, odd), -1);
    }
    state(x, "hlm/o/1:0", 0);
    Check.due("turn(0, 0)", x.turn(0, 0), 2);
    Check.due("turn(1, 1)", x.turn(1, 1), 0);
    Check.due("turn(2, 2)", x.turn(2, 2), 1);
    state(x, "lmh/o/1:0", 3);
  }

  private static void syllables() {
    ToneLines x = Check.made("hl//", "");
    Check.due("shrink() of none", x.shrink(), false);
    Check.due("grow", x.grow(true, false), true);
    Check.due("grow", x.grow(false, true), true);
    Check.due("grow", x.grow(true, true), true);
    state(x, "hl/O-o-O/", 3);
    x.line(0, 1);
    x.line(0, 2);
    x.line(1, 2);
    Check.due("shrink()", x.shrink(), true);
    state(x, "hl/O-o/0:1", 7);
    Check.due("grow", x.grow(false, false), true);
    state(x, "hl/O-oo/0:1", 8);
    for (int i = 3; i < 12; i++) Check.due("grow " + i, x.grow(false, false), true);
    Check.due("a 13th SYLLABLE", x.grow(false, false), false);
    Check.due("has(0, 1)", x.has(0, 1), 12);
    for (int i = 12; i > 0; i--) Check.due("shrink of " + i, x.shrink(), true);
    Check.due("shrink of none", x.shrink(), false);
    Check.due("the WORD", Check.spelled(x, 0), "hl//");
  }

  private static void marks() {
    ToneLines x = Check.made("h/oO-o-O/0:1", "");
    Check.due("mark(4)", x.mark(4, true, true), false);
    for (int odd : ODD) Check.due("mark(odd)", x.mark(odd, true, true), false);
    Check.due("mark 0 as it is", x.mark(0, false, false), false);
    Check.due("mark 1 as it is", x.mark(1, true, false), false);
    Check.due("mark 2 as it is", x.mark(2, false, true), false);
    Check.due("mark 3 as it is", x.mark(3, true, true), false);
    state(x, "h/oO-o-O/0:1", 0);
    Check.due("mark 0", x.mark(0, true, true), true);
    Check.due("mark 1", x.mark(1, true, true), true);
    Check.due("mark 2", x.mark(2, true, true), true);
    Check.due("mark 3", x.mark(3, false, true), true);
    state(x, "h/-O-O-O-o/0:1", 4);
  }

  private static void doesARule() {
    ToneLines x = Check.made("h/ooo/0:0", "spread high right 1; cut high first; drop low;");
    Check.due("does(3)", x.does(3), -1);
    for (int odd : ODD) Check.due("does(odd)", x.does(odd), -1);
    Check.due("does(2), which does nothing", x.does(2), 0);
    state(x, "h/ooo/0:0", 0);
    Check.due("does(1), of the WORD as told", x.does(1), 1);
    state(x, "h/ooo/", 1);
    Check.due("undo()", x.undo(), 0);
    Check.due("does(0)", x.does(0), 1);
    Check.due("does(0)", x.does(0), 1);
    state(x, "h/ooo/0:0 0:1 0:2", 2);
    Check.due("does(0) with no room", x.does(0), 0);
    state(x, "h/ooo/0:0 0:1 0:2", 2);
  }

  private static void derives() {
    ToneLines x = Check.made("h/ooo/0:1", "shift high right; shift high left; fill low;");
    Check.due("derive(4)", x.derive(4), -1);
    for (int odd : ODD) Check.due("derive(odd)", x.derive(odd), -1);
    Check.due("derive(0)", x.derive(0), 0);
    state(x, "h/ooo/0:1", 0);
    Check.due("derive(2), there and back", x.derive(2), 4);
    state(x, "h/ooo/0:1", 1);
    Check.due("derive(3)", x.derive(3), 8);
    state(x, "lhl/ooo/0:0 1:1 2:2", 2);
    Check.due("derive(3) once more", x.derive(3), 0);
    state(x, "lhl/ooo/0:0 1:1 2:2", 2);
    Check.due("undo()", x.undo(), 1);
    state(x, "h/ooo/0:1", 1);
    Check.due("derive(1)", x.derive(1), 2);
    state(x, "h/ooo/0:2", 2);
  }

  private static void undoes() {
    ToneLines x = Check.made("hl/oo/0:0", "link right;");
    String[] was = new String[12];
    int acts = 0;
    was[acts++] = Check.spelled(x, 0);
    x.line(1, 1);
    was[acts++] = Check.spelled(x, 0);
    x.cut(0, 0);
    was[acts++] = Check.spelled(x, 0);
    x.tone(1, 1);
    was[acts++] = Check.spelled(x, 0);
    x.hush(0);
    was[acts++] = Check.spelled(x, 0);
    x.turn(0, 2);
    was[acts++] = Check.spelled(x, 0);
    x.grow(true, true);
    was[acts++] = Check.spelled(x, 0);
    x.mark(0, true, false);
    was[acts++] = Check.spelled(x, 0);
    x.shrink();
    was[acts++] = Check.spelled(x, 0);
    x.does(0);
    was[acts++] = Check.spelled(x, 0);
    x.cut(0, 0);
    was[acts++] = Check.spelled(x, 0);
    x.derive(1);
    Check.due("the ACTS", x.count(1), acts);
    while (acts > 0) {
      acts--;
      Check.due("undo() to " + acts, x.undo(), acts);
      state(x, was[acts], acts);
    }
    Check.due("undo() of none", x.undo(), -1);
    state(x, "hl/oo/0:0", 0);
  }

  private static void twelveActs() {
    ToneLines x = new ToneLines();
    for (int i = 0; i < 12; i++) x.grow(i % 2 == 0, false);
    Check.due("12 ACTS", x.count(1), 12);
    x.tone(0, 0);
    Check.due("13 ACTS", x.count(1), 12);
    for (int i = 11; i >= 0; i--) Check.due("undo() to " + i, x.undo(), i);
    Check.due("undo() of none", x.undo(), -1);
    Check.due("the oldest stays", Check.spelled(x, 0), "/O/");
    for (int i = 0; i < 40; i++) x.mark(0, i % 2 == 1, false);
    Check.due("40 ACTS", x.count(1), 12);
    Check.due("undo()", x.undo(), 11);
    Check.due("an ACT behind an undo()", x.grow(false, true), true);
    Check.due("12 again", x.count(1), 12);
    Check.due("undo()", x.undo(), 11);
    Check.due("the WORD", Check.spelled(x, 0), "/o/");
  }
}
