/** Promises 1 to 5: a new object, feed, load, border, byteAt. */
public final class MemoryTest {
  private static final Due due = new Due("MemoryTest");

  public static void main(String[] args) {
    newObject();
    feed();
    load();
    border();
    byteAt();
    due.end();
  }

  private static void newObject() {
    GlulxStrings x = new GlulxStrings();
    for (int what = 0; what <= 17; what++) {
      due.is("told(" + what + ") of a new object", x.told(what), 0);
    }
    due.is("told(-1)", x.told(-1), Due.BAD);
    due.is("told(18)", x.told(18), Due.BAD);
    due.is("jobs()", x.jobs(), 0);
    due.is("at(0)", x.at(0), Due.NONE);
    due.is("byteAt(0)", x.byteAt(0), 0);
    due.is("byteAt(4095)", x.byteAt(4095), 0);
    due.is("bits(NONE)", x.bits(Due.NONE), Due.NONE);
    due.is("bits(0)", x.bits(0), Due.BAD);
    due.is("laid(0, 0)", x.laid(0, 0), Due.BAD);
    due.is("tree(0)", x.tree(0), Due.NO);
    due.is("clear()", x.clear(), 0);
    due.is("stop()", x.stop(), 0);
    due.is("forget()", x.forget(), 0);
    due.is("resume(1)", x.resume(1), Due.NO);
  }

  private static void feed() {
    GlulxStrings x = new GlulxStrings();
    due.is("feed(0, 1)", x.feed(0, 1), Due.BAD);
    due.is("feed(9, 1)", x.feed(9, 1), Due.BAD);
    due.is("feed(MIN, 1)", x.feed(Integer.MIN_VALUE, 1), Due.BAD);
    due.is("feed(8, ..)", x.feed(8, 0x8102030405060708L), 8);
    due.is("feed(1, 0x1ff)", x.feed(1, 0x1ff), 9);
    due.is("feed(2, -2)", x.feed(2, -2), 11);
    due.is("told(13)", x.told(13), 11);
    due.is("load(7)", x.load(7), 11);
    int[] want = {0x81, 2, 3, 4, 5, 6, 7, 8, 255, 255, 254};
    for (int i = 0; i < want.length; i++) {
      due.is("byteAt(" + (7 + i) + ")", x.byteAt(7 + i), want[i]);
    }
    for (int i = 0; i < 74; i++) {
      x.feed(8, i);
    }
    due.is("feed(8) at 592", x.feed(8, 0), 600);
    due.is("feed(1) at 600", x.feed(1, 0), Due.FULL);
    due.is("feed(0) at 600", x.feed(0, 0), Due.BAD);
    due.is("load(0) of 600", x.load(0), 600);
    for (int i = 0; i < 74; i++) {
      x.feed(8, i);
    }
    x.feed(3, 0);
    due.is("feed(6) at 595", x.feed(6, 0), Due.FULL);
    due.is("told(13) behind FULL", x.told(13), 595);
    due.is("feed(5) at 595", x.feed(5, 0), 600);
  }

  private static void load() {
    GlulxStrings x = new GlulxStrings();
    due.is("load(0) of nothing", x.load(0), 0);
    due.is("load(4096) of nothing", x.load(4096), 0);
    x.feed(2, 0x0102);
    due.is("load(4095) of two", x.load(4095), Due.BAD);
    due.is("told(13) behind BAD", x.told(13), 0);
    due.is("byteAt(4095)", x.byteAt(4095), 0);
    x.feed(2, 0x0102);
    due.is("load(-1)", x.load(-1), Due.BAD);
    x.feed(2, 0x0102);
    due.is("load(MAX)", x.load(Integer.MAX_VALUE), Due.BAD);
    x.feed(2, 0x0102);
    due.is("load(4094)", x.load(4094), 2);
    due.is("byteAt(4095)", x.byteAt(4095), 2);
    x.border(4096);
    x.feed(1, 9);
    due.is("load(10) below the BORDER", x.load(10), 1);
    due.is("byteAt(10)", x.byteAt(10), 9);
  }

  private static void border() {
    GlulxStrings x = new GlulxStrings();
    due.is("border(-1)", x.border(-1), Due.BAD);
    due.is("border(4097)", x.border(4097), Due.BAD);
    due.is("border(4096)", x.border(4096), 0);
    due.is("border(5)", x.border(5), 4096);
    due.is("border(-1)", x.border(-1), Due.BAD);
    due.is("told(11)", x.told(11), 5);
    due.is("border(0)", x.border(0), 5);
    Due.put(x, 100, 224, 65, 0);
    x.print(100, 0);
    due.is("border(7) with JOBS", x.border(7), 0);
  }

  private static void byteAt() {
    GlulxStrings x = new GlulxStrings();
    Due.put(x, 0, 255);
    due.is("byteAt(0)", x.byteAt(0), 255);
    due.is("byteAt(-1)", x.byteAt(-1), Due.NONE);
    due.is("byteAt(4096)", x.byteAt(4096), Due.NONE);
    due.is("byteAt(MIN)", x.byteAt(Integer.MIN_VALUE), Due.NONE);
    due.is("byteAt(MAX)", x.byteAt(Integer.MAX_VALUE), Due.NONE);
  }
}
