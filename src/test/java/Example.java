/** How ToneLines is used; README.md shows this file and what it prints. */
public final class Example {
  private Example() { }

  public static void main(String[] args) {
    System.out.print(run());
  }

  static String run() {
    StringBuilder out = new StringBuilder();
    ToneLines x = new ToneLines();
    tell(x, "hlhl/o-oO/");
    out.append("word() ").append(x.word()).append(" tones\n");
    tell(x, "link right; dock any left; drop any; flat 1 first;");
    out.append("rules() ").append(x.rules()).append(" rules\n");
    for (int n = 0; n <= x.count(0); n++) {
      out.append("by ").append(n).append(": ").append(spelled(x, n)).append('\n');
    }
    out.append("height of tone 2: ").append(x.toneAt(4, 2, 4)).append('\n');
    out.append("rule 0: ").append(x.done(0, 0)).append(" changes\n");
    out.append("rules that change nothing: ").append(x.count(3)).append('\n');
    out.append("rules 1, 2 exchanged: ").append(x.exchanged(1)).append('\n');
    out.append("readings of all orders: ").append(x.orders(0)).append('\n');
    out.append("rows of 4 tones read alike: ").append(x.sources(4)).append('\n');
    out.append("derive(4) ").append(x.derive(4)).append(" changes\n");
    out.append("undo() ").append(x.undo()).append(" more\n");
    return out.toString();
  }

  /** A text comes on the tape: 20 bytes by each feed, what is too many goes by back. */
  private static void tell(ToneLines x, String text) {
    for (int from = 0; from < text.length(); from += 20) {
      int[] five = new int[5];
      for (int i = 0; i < 20; i++) {
        int sign = from + i < text.length() ? text.charAt(from + i) : ' ';
        five[i / 4] = five[i / 4] << 8 | sign;
      }
      x.feed(five[0], five[1], five[2], five[3], five[4]);
    }
    x.back((20 - text.length() % 20) % 20);
  }

  private static String spelled(ToneLines x, int n) {
    StringBuilder text = new StringBuilder();
    for (int i = 0; i < x.spell(n, ToneLines.NONE); i++) {
      text.append((char) x.spell(n, i));
    }
    return text.toString();
  }
}
