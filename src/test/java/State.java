/** What an object tells of itself, as a text: two of them tell whether a call changed something. */
final class State {
  private static final int[] PLACES = {0, 100, 103, 112, 500, 1000, 4095};

  private State() {
  }

  /** All but what told() tells of one thing (-1: all). */
  static String of(GlulxStrings x, int but) {
    StringBuilder s = new StringBuilder();
    for (int what = 0; what <= 17; what++) {
      s.append(" told ").append(what).append(what == but ? "" : " " + x.told(what));
    }
    jobs(x, s);
    packing(x, s);
    for (int at : PLACES) {
      s.append(" byte ").append(x.byteAt(at));
    }
    for (int i = 0; i < Math.min(5, x.told(12)); i++) {
      s.append(" out ").append(x.at(i));
    }
    return s.toString();
  }

  private static void jobs(GlulxStrings x, StringBuilder s) {
    s.append(" jobs ").append(x.jobs());
    for (int k = 0; k < Math.min(2, x.jobs()); k++) {
      for (int what : new int[] {0, 1, 2, 3, 4, 10, 11}) {
        s.append(' ').append(x.job(k, what));
      }
    }
  }

  private static void packing(GlulxStrings x, StringBuilder s) {
    for (int k = 0; k < Math.min(3, x.told(17)); k++) {
      s.append(" text ").append(x.laid(k, 0)).append(' ').append(x.laid(k, 1)).append(' ').append(x.laid(k, 2));
    }
    for (int p = -1; p < Math.min(3, x.told(16)); p++) {
      s.append(" bits ").append(x.bits(p));
    }
  }
}
