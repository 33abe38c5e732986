/** RULES and their TEXT: tests for each sentence that names a boundary case. */
public final class RuleEdgesTest {
  private static final String VERBS = "link spread shift cut dock drop fuse turn flat fill";
  private static final String TESTS = "begin end heavy many float before after";
  private static final String KINDS = "low mid high any";
  private static final String N = "1 2 3 4 5 6 7 8 9";
  private static final String[] ALL = ("again if not to right left first last 0 " + N + " " + VERBS + " " + TESTS
      + " " + KINDS + " ; agai againn lin links lo lows an anyy x : / - 10 00 Low LOW").split(" ");
  private static final String EIGHT = "drop low;".repeat(8);

  public static void main(String[] args) {
    atMostEight();
    semicolons();
    pieces();
    order();
    faults();
    kinds();
    parts();
    notAny();
    noIf();
    testPieces();
    bytes();
    Check.end("RuleEdgesTest");
  }

  private static int told(String text) { return Check.rules(new ToneLines(), text); }

  private static void rules(String text, int want) { Check.due("rules() of '" + text + "'", told(text), want); }

  private static void fault(String text, int at) { rules(text, -4 - at); }

  /**
   * Behind a text just these pieces can stand, and behind the ; the TEXT may end: with another of
   * these it ends too early, and any other piece is the FAULT. A piece whose first sign could stand
   * and whose second could not is left to those that try it by hand.
   */
  private static void next(String text, String these) {
    String may = " " + these + " ";
    for (String piece : ALL) {
      String whole = text + " " + piece;
      if (may.contains(" " + piece + " ")) {
        rules(whole, piece.equals(";") ? 1 : -4 - whole.length());
      } else if (!piece.equals("10") || !may.contains(" 1 ")) {
        fault(whole, text.length() + 1);
      }
    }
    if (text.isEmpty()) return;
    fault(text, text.length());
    fault(text + "  ", text.length() + 2);
  }

  private static void atMostEight() {
    Check.sentence("RULES 0, 1 .. (at most 8)");
    rules("", 0);
    rules(EIGHT, 8);
    rules(EIGHT + "  ", 8);
    fault(EIGHT + "drop low;", 72);
    ToneLines x = Check.made("h/o/", EIGHT);
    Check.due("rule(7, 0)", x.rule(7, 0), 5);
    Check.due("rule(8, 0)", x.rule(8, 0), -1);
    Check.due("has(8, 0)", x.has(8, 0), 1);
    Check.due("has(9, 0)", x.has(9, 0), -1);
  }

  private static void semicolons() {
    Check.sentence("each with ; behind");
    rules("link right;", 1);
    rules("link right ;", 1);
    fault("link right", 10);
    fault("link right link left;", 11);
    fault("link right; link left", 21);
    fault(";", 0);
    fault("  ;", 2);
    fault("link right;;", 11);
    fault("link right; ;", 12);
  }

  private static void pieces() {
    Check.sentence("WORDS of small letters, digits (one), blanks where one likes and between two of these (else the second"
        + " can't stand there)");
    rules("link right;link left;", 2);
    rules("  again   spread   any   left   9   if   not   after   any   ;   link   left   ;   ", 2);
    rules(" ".repeat(289) + "link right;", 1);
    fault("spread any left1;", 15);
    fault("spread any left 1if end;", 17);
    fault("spread any left 12;", 17);
    fault("spread any left 1 2;", 18);
    fault("spread any left 11;", 17);
    fault("spread any left 01;", 16);
    for (int n = 0; n <= 9; n++) {
      fault("flat" + n + " first;", 4);
      fault("spread any left" + n + ";", 15);
      if (n > 0) fault("flat " + n + "first;", 6);
      if (n > 0) fault("spread any left " + n + "if end;", 17);
      if (n > 0) fault("spread any left 1" + n + ";", 17);
    }
    fault("flat 1 first2;", 12);
    fault("flat 1 first 2;", 13);
    fault("again1 drop low;", 5);
    // Two WORDS without a blank are another WORD, which can't stand there.
    fault("linkright;", 0);
    fault("link rightleft;", 5);
    fault("againlink right;", 0);
    fault("drop lowif end;", 5);
    fault("drop low ifnot end;", 9);
    fault("drop low if notend;", 12);
    fault("drop low if beforelow;", 12);
    fault("turn low tomid;", 9);
    fault("l ink right;", 0);
    fault("Link right;", 0);
    fault("linK right;", 0);
    fault("link riGht;", 5);
    fault("link Right;", 5);
    fault("link,right;", 4);
    fault("link\tright;", 4);
  }

  private static void order() {
    Check.sentence("[again] VERB [if [not] TEST]");
    next("", "again " + VERBS);
    next("again", VERBS);
    next("drop low", "if ;");
    next("again drop low", "if ;");
    next("drop low if", "not " + TESTS);
    next("drop low if not", TESTS);
    next("drop low if end", ";");
    next("drop low if not end", ";");
    fault("again again link right;", 6);
    fault("if end drop low;", 0);
    fault("not drop low;", 0);
    fault("drop low not end;", 9);
    fault("drop low again;", 9);
    fault("drop low if end if end;", 16);
    fault("drop low if not not end;", 16);
  }

  private static void faults() {
    Check.sentence("FAULT: the first byte of what can't stand there (a 9th RULE at its first; the TEXT's length, if it"
        + " ends too early)");
    fault("drop lowx;", 5);
    fault("   drop   right;", 10);
    fault("drop low; drop low; x", 20);
    fault(EIGHT + "link right;", 72);
    fault(EIGHT + "  link right;", 74);
    fault(EIGHT + ";", 72);
    fault(EIGHT + "x", 72);
    fault(EIGHT + "   \u00ff", 75);
    String text = "again spread any left 1 if not before low";
    for (int length = 1; length <= text.length(); length++) {
      String begun = text.substring(0, length);
      if (length == text.length() || text.charAt(length) == ' ') fault(begun, length);
      if (text.charAt(length - 1) == ' ') fault(begun, length);
    }
    fault(" ".repeat(290) + "link right", 300);
    fault(" ".repeat(299) + "x", 299);
    fault(" ".repeat(299) + ";", 299);
    rules(" ".repeat(300), 0);
  }

  private static void kinds() {
    Check.sentence("K is low, mid, high, any.");
    for (String verb : "spread shift cut dock drop fuse turn".split(" ")) next(verb, KINDS);
    String[] k = KINDS.split(" ");
    for (int i = 0; i < 4; i++) {
      ToneLines x = Check.made("h/o/", "drop " + k[i] + "; cut any first if before " + k[i] + ";");
      Check.due("rule(0, 2) of " + k[i], x.rule(0, 2), i);
      Check.due("rule(1, 7) of " + k[i], x.rule(1, 7), i);
    }
  }

  private static void parts() {
    Check.sentence("link SIDE; spread K SIDE N; shift K SIDE; cut K END; dock K SIDE; drop K; fuse K; turn K to K;"
        + " flat N END; fill K.");
    next("link", "right left");
    next("link left", ";");
    next("spread any", "right left");
    next("spread any left", N);
    next("spread any left 1", "if ;");
    next("shift any", "right left");
    next("shift any right", "if ;");
    next("cut any", "first last");
    next("cut any last", "if ;");
    next("dock any", "right left");
    next("dock any right", "if ;");
    next("drop any", "if ;");
    next("fuse any", "if ;");
    next("turn any", "to");
    next("turn any to mid", "if ;");
    next("flat", N);
    next("flat 9", "first last");
    next("flat 9 last", ";");
    next("fill mid", ";");
    Check.sentence("SIDE: right, left; END: first, last; N: 1 .. 9");
    for (int n = 1; n <= 9; n++) {
      rules("spread any left " + n + ";", 1);
      rules("flat " + n + " first;", 1);
      Check.due("rule(0, 3)", Check.made("h/o/", "flat " + n + " first;").rule(0, 3), n);
    }
    fault("spread any left 0;", 16);
    fault("spread any left -1;", 16);
    fault("spread any left :;", 16);
    fault("spread any left 10;", 17);
    fault("flat 0 first;", 5);
    fault("flat / first;", 5);
    fault("flat : first;", 5);
    fault("flat 10 first;", 6);
    fault("link first;", 5);
    fault("cut any right;", 8);
  }

  private static void notAny() {
    Check.sentence("turn's second K, fill's K: not any.");
    next("turn any to", "low mid high");
    next("fill", "low mid high");
    rules("turn any to low;", 1);
    fault("turn low to any;", 12);
    fault("fill any;", 5);
  }

  private static void noIf() {
    Check.sentence("link, flat, fill have no if.");
    fault("link right if end;", 11);
    fault("again link right if end;", 17);
    fault("flat 1 first if end;", 13);
    fault("fill low if end;", 9);
    for (String rule : new String[] {"spread any right 1", "shift any right", "cut any last", "dock any left", "drop any",
        "fuse any", "turn any to low"}) {
      rules(rule + " if end;", 1);
      rules(rule + " if not after any;", 1);
    }
  }

  private static void testPieces() {
    Check.sentence("before K, after K:");
    next("drop any if before", KINDS);
    next("drop any if not after", KINDS);
    next("drop any if after any", ";");
    for (String test : "begin end heavy many float".split(" ")) next("drop any if " + test, ";");
  }

  /** Each of the 256 bytes behind a piece: a small letter makes it another WORD. */
  private static void bytes() {
    Check.sentence("FAULT: the first byte of what can't stand there");
    for (int sign = 0; sign < 256; sign++) {
      boolean letter = sign >= 'a' && sign <= 'z';
      boolean blank = sign == ' ';
      rules("" + (char) sign, blank ? 0 : -4);
      rules("drop low" + (char) sign, sign == ';' ? 1 : -4 - (blank ? 9 : letter ? 5 : 8));
      rules("drop" + (char) sign, -4 - (blank ? 5 : letter ? 0 : 4));
      rules("flat " + (char) sign, -4 - (blank || sign >= '1' && sign <= '9' ? 6 : 5));
      rules("flat 1" + (char) sign, -4 - (blank ? 7 : 6));
      rules("drop low;" + (char) sign, blank ? 1 : -13);
      rules(EIGHT + (char) sign, blank ? 8 : -76);
    }
  }
}
