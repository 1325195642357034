/** Compares answers with what is due, and puts bytes into an object's memory. */
final class Due {
  static final int NONE = GlulxStrings.NONE;
  static final int BAD = GlulxStrings.BAD;
  static final int NO = GlulxStrings.NO;
  static final int FULL = GlulxStrings.FULL;
  static final int HELD = GlulxStrings.HELD;

  private final String test;
  private String sentence = "";
  private int sentences = 0;
  private int asked = 0;
  private int wrong = 0;

  Due(String test) {
    this.test = test;
  }

  void is(String call, long got, long want) {
    asked++;
    if (got != want) {
      tell(call + " answered " + got + ", due is " + want);
    }
  }

  void same(String call, String got, String want) {
    asked++;
    if (!got.equals(want)) {
      tell(call + " is" + got + ", due is" + want);
    }
  }

  private void tell(String fault) {
    wrong++;
    System.out.println(test + sentence + ": " + fault);
  }

  /** A sentence of the document, and the test of its own that it has. */
  void holds(String told, Runnable body) {
    int before = asked;
    sentence = " \"" + told + "\"";
    sentences++;
    try {
      body.run();
    } catch (RuntimeException e) {
      tell("threw " + e);
    }
    if (asked == before) {
      tell("nothing was asked");
    }
    sentence = "";
  }

  /** The whole row of the OUT. */
  void out(GlulxStrings x, String call, int... signs) {
    is(call + ": signs in the OUT", x.told(12), signs.length);
    for (int i = 0; i < signs.length; i++) {
      is(call + ": at(" + i + ")", x.at(i), signs[i]);
    }
    is(call + ": at(" + signs.length + ")", x.at(signs.length), NONE);
  }

  void end() {
    String of = sentences == 0 ? "" : sentences + " sentences, ";
    System.out.println(test + ": " + of + asked + " answers, " + wrong + " wrong");
    if (wrong != 0) {
      System.exit(1);
    }
  }

  /** A fault's answer. */
  static int fault(int number) {
    return -10 - number;
  }

  /** Feeds the bytes, eight a call, and loads them. */
  static int put(GlulxStrings x, int at, int... bytes) {
    for (int i = 0; i < bytes.length; i += 8) {
      int n = Math.min(8, bytes.length - i);
      long w = 0;
      for (int k = 0; k < n; k++) {
        w = w << 8 | bytes[i + k] & 255;
      }
      x.feed(n, w);
    }
    return x.load(at);
  }

  /** Rows of bytes, one behind the other. */
  static int[] join(int[]... rows) {
    int n = 0;
    for (int[] row : rows) {
      n += row.length;
    }
    int[] all = new int[n];
    int at = 0;
    for (int[] row : rows) {
      System.arraycopy(row, 0, all, at, row.length);
      at += row.length;
    }
    return all;
  }

  static int[] b(int... bytes) {
    return bytes;
  }

  static int[] four(int... numbers) {
    int[] bytes = new int[4 * numbers.length];
    for (int i = 0; i < bytes.length; i++) {
      bytes[i] = numbers[i / 4] >> 24 - 8 * (i % 4) & 255;
    }
    return bytes;
  }

  static void line(GlulxStrings x, int... signs) {
    for (int c : signs) {
      x.sign(c);
    }
  }

  static int piece(GlulxStrings x, int kind, int... signs) {
    line(x, signs);
    return x.piece(kind);
  }

  static int text(GlulxStrings x, int... signs) {
    line(x, signs);
    return x.text();
  }
}
