/** Promises 1 to 5: a new object, feed, back, word, rules. */
public final class ToldTest {
  public static void main(String[] args) {
    aNewObject();
    feedAndBack();
    wordsThatAreOne();
    faultsOfTones();
    faultsOfSyllables();
    faultsOfLines();
    whatAWordLeaves();
    rulesThatAreSome();
    faultsOfRules();
    whatRulesLeave();
    Check.end("ToldTest");
  }

  private static void aNewObject() {
    ToneLines x = new ToneLines();
    Check.due("NONE", ToneLines.NONE, -1);
    for (int what = 0; what <= 8; what++) Check.due("has(0, " + what + ")", x.has(0, what), 0);
    for (int what = 0; what <= 3; what++) Check.due("count(" + what + ")", x.count(what), 0);
    Check.due("the new WORD", Check.spelled(x, 0), "//");
    Check.due("has(1, 0)", x.has(1, 0), -1);
    Check.due("undo()", x.undo(), -1);
  }

  private static void feedAndBack() {
    ToneLines x = new ToneLines();
    for (int i = 1; i <= 15; i++) Check.due("feed " + i, x.feed(-1, 0, 1, 2, 3), 20 * i);
    Check.due("a 16th feed", x.feed(0, 0, 0, 0, 0), -1);
    Check.due("count(2) behind it", x.count(2), 300);
    Check.due("back(-1)", x.back(-1), -1);
    Check.due("back(least)", x.back(Integer.MIN_VALUE), -1);
    Check.due("back(301)", x.back(301), -1);
    Check.due("back(0)", x.back(0), 300);
    Check.due("back(19)", x.back(19), 281);
    Check.due("feed to 301", x.feed(0, 0, 0, 0, 0), -1);
    Check.due("back(1)", x.back(1), 280);
    Check.due("feed to 300", x.feed(0, 0, 0, 0, 0), 300);
    Check.due("back(300)", x.back(300), 0);
    Check.due("back(1) of none", x.back(1), -1);
    Check.due("back(0) of none", x.back(0), 0);
    // The highest byte of a is the first, the lowest of e the last one.
    x.feed(0x6C6D682F, 0x6F4F2F20, 0x20202020, 0x20202020, 0x2020303A);
    x.feed(0x31202020, 0x20202020, 0x20202020, 0x20202020, 0x20202020);
    Check.due("word()", x.word(), 3);
    Check.due("its bytes in order", Check.spelled(x, 0), "lmh/oO/0:1");
  }

  private static void word(String text, int want) {
    ToneLines x = new ToneLines();
    Check.due("word() of '" + text + "'", Check.word(x, text), want);
  }

  private static void fault(String text, int at) { word(text, -4 - at); }

  private static void same(String text, String want) {
    ToneLines x = new ToneLines();
    Check.word(x, text);
    Check.due("'" + text + "' spelled", Check.spelled(x, 0), want);
  }

  private static void wordsThatAreOne() {
    word("//", 0);
    word("lmh//", 3);
    word("/oO-o-O/", 0);
    word("  /  /  ", 0);
    word("hhhhhhhhhhhh/oooooooooooo/11:11", 12);
    same("l m h / o -O - o O/ 0 : 00 0:1 01  :1  2:3 ", "lmh/o-O-oO/0:0 0:1 1:1 2:3");
    same("hh/oo/1:1 0:0", "hh/oo/0:0 1:1");
    same("hhhhhhhhhhhh/-O-O-O-O-O-O-O-O-O-O-O-O/09:9 10:10 11:11",
        "hhhhhhhhhhhh/-O-O-O-O-O-O-O-O-O-O-O-O/9:9 10:10 11:11");
    same("hhh/ooo/2:1 0:1 1:1", "hhh/ooo/0:1 1:1 2:1");
  }

  private static void faultsOfTones() {
    fault("", 0);
    fault("   ", 3);
    fault("hl", 2);
    fault("hL/o/", 1);
    fault("hx/o/", 1);
    fault("h-/o/", 1);
    fault("ho/o/", 1);
    fault("h\u00e9/o/", 1);
    fault("h\n/o/", 1);
    fault("h\u0000/o/", 1);
    fault("hhhhhhhhhhhhh/o/", 12);
    fault("hhhhhhhhhhhh  m/o/", 14);
    fault("hhhhhhhhhhhhx/o/", 12);
  }

  private static void faultsOfSyllables() {
    fault("/", 1);
    fault("/ooo", 4);
    fault("/o-", 3);
    fault("/o-  ", 5);
    fault("/o-/", 3);
    fault("/o--o/", 3);
    fault("/o- -o/", 4);
    fault("/-x/", 2);
    fault("/oh/", 2);
    fault("/o0/", 2);
    fault("h/o0:0", 3);
    fault("/ooooooooooooo/", 13);
    fault("/ooooooooooooO/", 13);
    fault("/oooooooooooo-o/", 14);
    fault("/oooooooooooo - O/", 16);
    fault("/oooooooooooo-/", 14);
    fault("/oooooooooooo-", 14);
    word("/oooooooooooo/", 0);
  }

  private static void faultsOfLines() {
    fault("h/o/0", 5);
    fault("h/o/0 ", 6);
    fault("h/o/0:", 6);
    fault("h/o/0: ", 7);
    fault("h/o/0:x", 6);
    fault("h/o/x", 4);
    fault("h/o/:0", 4);
    fault("h/o//", 4);
    fault("h/o/0;0", 5);
    fault("h/o/1:0", 4);
    fault("h/o/1", 4);
    fault("h/o/0:1", 6);
    fault("h/o/ 0 : 12", 9);
    fault("/o/0:0", 3);
    fault("h//0:0", 5);
    fault("h/o/99:0", 4);
    fault("h/o/993:0", 4);
    fault("h/o/000:0", 6);
    fault("h/o/0:000", 8);
    fault("h/o/0 0:0", 6);
    fault("hh/oo/0:0 0 1:0", 12);
    fault("h/oo/0:00:1", 9);
    fault("h/oo/0:0:1", 8);
    fault("h/o/0:0x", 7);
    fault("h/o/0:0/", 7);
    fault("h/o/0:0 x", 8);
    fault("h/o/0:0 0:0", 8);
    fault("h/o/0:0  00:00", 9);
    fault("hh/oo/0:1 1:0", 10);
    fault("hh/oo/1:0 0:1", 10);
    fault("hh/oo/1:0 0:1x", 10);
    fault("hhhhhhhhhhhh/oooooooooooo/12:0", 26);
    fault("hhhhhhhhhhhh/oooooooooooo/11:12", 29);
    fault("h/oo/0:1 0 :2", 12);
  }

  private static void whatAWordLeaves() {
    ToneLines x = Check.made("h/o/0:0", "drop low;");
    x.turn(0, 1);
    Check.lay(x, "h/o/0:");
    Check.due("a word with a FAULT", x.word(), -10);
    Check.due("the tape behind a FAULT", x.count(2), 0);
    Check.due("the WORD behind a FAULT", Check.spelled(x, 0), "m/o/0:0");
    Check.due("the ACTS behind a FAULT", x.count(1), 1);
    Check.due("another word", Check.word(x, "ll/o/"), 2);
    Check.due("its ACTS", x.count(1), 0);
    Check.due("undo()", x.undo(), -1);
    Check.due("the RULES stay", x.count(0), 1);
    Check.due("the tape", x.count(2), 0);
  }

  private static void rules(String text, int want) {
    ToneLines x = new ToneLines();
    Check.due("rules() of '" + text + "'", Check.rules(x, text), want);
  }

  private static void ruleFault(String text, int at) { rules(text, -4 - at); }

  private static void rulesThatAreSome() {
    rules("", 0);
    rules("   ", 0);
    rules("link right;link left;", 2);
    rules("spread any right 1;shift low left;cut mid first;dock high right;", 4);
    rules("drop any;fuse low;turn any to mid;flat 9 last;fill high;", 5);
    rules("  again   spread  high left  3  if  not  before   any  ;  ", 1);
    rules("cut any last if begin;cut any last if end;cut any last if heavy;cut any last if many;", 4);
    rules("cut any last if float;cut any last if before low;cut any last if after mid;", 3);
    rules("again link left;again flat 1 first;again fill low;", 3);
    rules("drop low;drop low;drop low;drop low;drop low;drop low;drop low;drop low; ", 8);
  }

  private static void faultsOfRules() {
    ruleFault(";", 0);
    ruleFault(" ;", 1);
    ruleFault("drop low;;", 9);
    ruleFault("again;", 5);
    ruleFault("again again drop low;", 6);
    ruleFault("agains drop low;", 0);
    ruleFault("dropx low;", 0);
    ruleFault("droplow;", 0);
    ruleFault("dropz low;", 0);
    ruleFault("zdrop low;", 0);
    ruleFault("drop low{", 8);
    ruleFault("drop`low;", 4);
    ruleFault("dro", 0);
    ruleFault("Drop low;", 0);
    ruleFault("dropX low;", 4);
    ruleFault("drop", 4);
    ruleFault("drop ", 5);
    ruleFault("drop low", 8);
    ruleFault("drop low ", 9);
    ruleFault("drop;", 4);
    ruleFault("drop right;", 5);
    ruleFault("drop low low;", 9);
    ruleFault("drop low 1;", 9);
    ruleFault("drop low1;", 8);
    ruleFault("drop low,", 8);
    ruleFault("drop low\u00ff", 8);
    ruleFault("link;", 4);
    ruleFault("link low right;", 5);
    ruleFault("link first;", 5);
    ruleFault("cut low right;", 8);
    ruleFault("dock low first;", 9);
    ruleFault("spread low right;", 16);
    ruleFault("spread low right 0;", 17);
    ruleFault("spread low right 12;", 18);
    ruleFault("spread low right 1 2;", 19);
    ruleFault("spread low right1;", 16);
    ruleFault("spread low 1 right;", 11);
    ruleFault("spread low right 1if end;", 18);
    ruleFault("turn low mid;", 9);
    ruleFault("turn low to any;", 12);
    ruleFault("turn low to;", 11);
    ruleFault("fill any;", 5);
    ruleFault("fill;", 4);
    ruleFault("flat first;", 5);
    ruleFault("flat 1first;", 6);
    ruleFault("flat 9first;", 6);
    ruleFault("flat9 first;", 4);
    ruleFault("flat : first;", 5);
    ruleFault("flat1 first;", 4);
    ruleFault("flat 1 right;", 7);
    ruleFault("flat 0 first;", 5);
    ruleFault("link right if end;", 11);
    ruleFault("flat 1 first if end;", 13);
    ruleFault("fill low if end;", 9);
    ruleFault("drop low if;", 11);
    ruleFault("drop low if", 11);
    ruleFault("drop low if not;", 15);
    ruleFault("drop low if not not end;", 16);
    ruleFault("drop low if begin low;", 18);
    ruleFault("drop low if before;", 18);
    ruleFault("drop low if after first;", 18);
    ruleFault("drop low if end if end;", 16);
    ruleFault("drop low not end;", 9);
    String eight = "drop low;drop low;drop low;drop low;drop low;drop low;drop low;drop low;";
    ruleFault(eight + "drop low;", 72);
    ruleFault(eight + "  x", 74);
    ruleFault(eight + ";", 72);
  }

  private static void whatRulesLeave() {
    ToneLines x = Check.made("h/o/", "drop low; fill low;");
    x.turn(0, 1);
    Check.due("rules with a FAULT", Check.rules(x, "drop low; x"), -14);
    Check.due("the tape behind a FAULT", x.count(2), 0);
    Check.due("the RULES behind a FAULT", x.count(0), 2);
    Check.due("the first of them", x.rule(0, 0), 5);
    Check.due("no RULES", Check.rules(x, ""), 0);
    Check.due("then there are none", x.count(0), 0);
    Check.due("the ACTS stay", x.count(1), 1);
    Check.due("the WORD stays", Check.spelled(x, 0), "m/o/");
  }
}
