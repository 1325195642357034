/** The edges of the document's first words, of its part 1 MEMORY, and of the promises 1 to 5. */
public final class EdgesOfMemoryTest extends Edges {
  public static void main(String[] args) {
    begin("EdgesOfMemoryTest");
    firstWords();
    memory();
    promises();
    end();
  }

  private static void firstWords() {
    holds("An object is used for at most 512 calls after it has been made", EdgesOfMemoryTest::lastCall);
    holds("All memory is the class's own, made once.", EdgesOfMemoryTest::twoObjects);
    holds("FOUR is a number of four bytes, the highest first, with sign", EdgesOfMemoryTest::fourHasSign);
    holds("addresses are FOURs", EdgesOfMemoryTest::addressesBelowZero);
  }

  private static void memory() {
    holds("MEMORY has 4096 bytes, 0 at first.", EdgesOfMemoryTest::memoryIsZero);
    holds("Those below the BORDER (0 at first) can't be changed by a running function.", EdgesOfMemoryTest::belowBorder);
    holds("THE TAPE is a row of up to 600 bytes", EdgesOfMemoryTest::tapeIsFull);
    holds("THE LINE one of up to 120 SIGNS (ints).", EdgesOfMemoryTest::lineIsFull);
    holds("READING a byte (each of a FOUR) outside of MEMORY is FAULT 1.", EdgesOfMemoryTest::byteOutside);
    holds("(each of a FOUR)", EdgesOfMemoryTest::fourOutside);
  }

  private static void promises() {
    holds("MEMORY of 0s, BORDER 0", () -> newObjectTells(11));
    holds("no TREE", EdgesOfMemoryTest::newObjectHasNoTree);
    holds("SYSTEM 0 with 0", EdgesOfMemoryTest::newObjectHasSystemZero);
    holds("nothing OUT", EdgesOfMemoryTest::newObjectHasNothingOut);
    holds("TAPE and LINE empty", EdgesOfMemoryTest::newObjectHasNoRows);
    holds("no JOBS, PIECES, TEXTS", EdgesOfMemoryTest::newObjectHasNoJobs);
    holds("The n lowest bytes of w, the highest of them first, come behind the TAPE: how many it has.",
        EdgesOfMemoryTest::feedsLowest);
    holds("BAD: n is not 1 .. 8. FULL.", EdgesOfMemoryTest::feedBad);
    holds("FULL.", EdgesOfMemoryTest::feedFull);
    holds("The TAPE is put into MEMORY from an address on", EdgesOfMemoryTest::loadsAtEdges);
    holds("(also below the BORDER)", EdgesOfMemoryTest::loadsBelowBorder);
    holds("and is empty then: how many bytes.", EdgesOfMemoryTest::tapeIsEmptyThen);
    holds("BAD: they would not all lie in it", EdgesOfMemoryTest::loadBad);
    holds("(the TAPE is empty then, too)", EdgesOfMemoryTest::tapeIsEmptyThenToo);
    holds("The BORDER: what it was.", EdgesOfMemoryTest::borderBefore);
    holds("BAD: not 0 .. 4096.", EdgesOfMemoryTest::borderBad);
    holds("A byte of MEMORY; NONE.", EdgesOfMemoryTest::byteAtNone);
  }

  // ---- the first words

  /** The dearest calls, as many as an object has, count right up to the last one. */
  private static void lastCall() {
    GlulxStrings x = new GlulxStrings();
    x.feed(8, 0xC1000A00FFFC0000L);
    x.load(CODE);
    is("call(CODE, 100000)", x.call(CODE, 100000), HELD);
    for (int i = 4; i < 512; i++) {
      is("call " + i + ", resume(100000)", x.resume(100000), HELD);
    }
    is("the 512th call, told(0)", x.told(0), 509 * 100000);
  }

  private static void twoObjects() {
    GlulxStrings x = new GlulxStrings();
    GlulxStrings y = new GlulxStrings();
    put(x, 5, b(9));
    x.border(7);
    x.table(8);
    x.system(2, 3);
    x.number(1, 1);
    x.feed(1, 1);
    piece(x, 2, 65);
    text(x, 65);
    x.sign(1);
    is("byteAt(5) of the other", y.byteAt(5), 0);
    for (int what = 0; what <= 17; what++) {
      is("told(" + what + ") of the other", y.told(what), 0);
    }
    is("jobs() of the other", y.jobs(), 0);
  }

  private static void fourHasSign() {
    for (int v : new int[] {0, 1, -1, MIN, MAX, 0x01020304, 0xFF000000, 0x000000FF}) {
      GlulxStrings x = withCode(1, order(14, value(2000), to(0)), order(0, local(0)));
      put(x, 2000, four(v));
      x.call(CODE, 9);
      is("the FOUR " + v, x.told(6), v);
    }
  }

  private static void addressesBelowZero() {
    GlulxStrings x = toOut();
    is("table(-1)", x.table(-1), 0);
    is("told(10)", x.told(10), -1);
    is("system(1, MIN)", x.system(1, MIN), 0);
    is("told(9)", x.told(9), MIN);
    is("print(MIN, 1)", x.print(MIN, 1), fault(1));
    is("call(-4096, 1)", x.call(-4096, 1), fault(1));
  }

  // ---- 1 MEMORY

  private static void memoryIsZero() {
    GlulxStrings x = new GlulxStrings();
    for (int at = 0; at < 4096; at++) {
      if (at % 512 == 0) {
        x = new GlulxStrings();
      }
      is("byteAt(" + at + ")", x.byteAt(at), 0);
    }
    is("byteAt(4096)", new GlulxStrings().byteAt(4096), NONE);
  }

  private static void write(int border, int at, int want) {
    GlulxStrings x = withCode(0, order(15, value(at), value(77)), OVER);
    x.border(border);
    is("15 at " + at + " with the BORDER at " + border, x.call(CODE, 9), want);
    is("byteAt(" + at + ")", x.byteAt(at), want == 0 ? 77 : 0);
  }

  private static void belowBorder() {
    write(0, 0, 0);
    write(1, 0, fault(7));
    write(200, 199, fault(7));
    write(200, 200, 0);
    write(4095, 4095, 0);
    write(4096, 4095, fault(7));
    GlulxStrings x = withCode(0, order(15, value(0), value(77)), OVER);
    is("15 at 0 of a new object", x.call(CODE, 9), 0);
    is("byteAt(0)", x.byteAt(0), 77);
  }

  private static void tapeIsFull() {
    GlulxStrings x = new GlulxStrings();
    for (int n = 8; n <= 600; n += 8) {
      is("feed(8) to " + n, x.feed(8, 0x0102030405060708L), n);
    }
    is("feed(1) at 600", x.feed(1, 9), FULL);
    is("load(3496)", x.load(3496), 600);
    is("byteAt(3496)", x.byteAt(3496), 1);
    is("byteAt(4095)", x.byteAt(4095), 8);
  }

  private static void lineIsFull() {
    GlulxStrings x = new GlulxStrings();
    for (int n = 1; n <= 120; n++) {
      is("sign " + n, x.sign(n % 2 == 0 ? MIN : MAX), n);
    }
    is("sign 121", x.sign(1), FULL);
    x = withCode(2, OVER);
    line(x, MIN, MAX);
    x.call(CODE, 0);
    is("LOCAL 0", x.job(0, 10), MIN);
    is("LOCAL 1", x.job(0, 11), MAX);
  }

  private static void byteOutside() {
    for (int at : new int[] {-1, 4096, MIN, MAX}) {
      is("print(" + at + ", 1)", new GlulxStrings().print(at, 1), fault(1));
      is("call(" + at + ", 1)", new GlulxStrings().call(at, 1), fault(1));
      faults("13 at " + at, 1, 1, order(13, value(at), to(0)));
    }
    for (int at : new int[] {0, 4095}) {
      is("print(" + at + ", 1)", new GlulxStrings().print(at, 1), fault(4));
      GlulxStrings x = withCode(1, order(13, value(at), to(0)), order(0, local(0)));
      put(x, at, b(200));
      is("13 at " + at, x.call(CODE, 9), 0);
      is("told(6)", x.told(6), 200);
    }
  }

  private static void fourOutside() {
    for (int at : new int[] {-4, -3, -2, -1, 4093, 4094, 4095, 4096, MIN, MAX - 3, MAX}) {
      faults("14 at " + at, 1, 1, order(14, value(at), to(0)));
    }
    for (int at : new int[] {0, 4092}) {
      GlulxStrings x = withCode(1, order(14, value(at), to(0)), order(0, local(0)));
      put(x, at, four(0x81020304));
      is("14 at " + at, x.call(CODE, 9), 0);
      is("told(6)", x.told(6), 0x81020304);
    }
  }

  // ---- promise 1

  private static void newObjectTells(int what) {
    is("told(" + what + ")", new GlulxStrings().told(what), 0);
    is("border(0)", new GlulxStrings().border(0), 0);
  }

  private static void newObjectHasNoTree() {
    GlulxStrings x = new GlulxStrings();
    is("told(10)", x.told(10), 0);
    is("told(15)", x.told(15), 0);
    put(x, STRING, b(225, 0));
    is("print of a PACKED string", x.print(STRING, 1), fault(2));
  }

  private static void newObjectHasSystemZero() {
    GlulxStrings x = new GlulxStrings();
    is("told(8)", x.told(8), 0);
    is("told(9)", x.told(9), 0);
    is("number(5, 9)", x.number(5, 9), 0);
    is("told(3)", x.told(3), 1);
  }

  private static void newObjectHasNothingOut() {
    is("told(12)", new GlulxStrings().told(12), 0);
    is("at(0)", new GlulxStrings().at(0), NONE);
    is("clear()", new GlulxStrings().clear(), 0);
  }

  private static void newObjectHasNoRows() {
    is("told(13)", new GlulxStrings().told(13), 0);
    is("told(14)", new GlulxStrings().told(14), 0);
    is("load(0)", new GlulxStrings().load(0), 0);
    is("feed(1, 0)", new GlulxStrings().feed(1, 0), 1);
    is("sign(0)", new GlulxStrings().sign(0), 1);
  }

  private static void newObjectHasNoJobs() {
    GlulxStrings x = new GlulxStrings();
    is("jobs()", x.jobs(), 0);
    is("stop()", x.stop(), 0);
    is("resume(1)", x.resume(1), NO);
    is("told(16)", x.told(16), 0);
    is("told(17)", x.told(17), 0);
    is("forget()", x.forget(), 0);
    is("bits(0)", x.bits(0), BAD);
    is("bits(NONE)", x.bits(NONE), NONE);
    is("laid(0, 0)", x.laid(0, 0), BAD);
    is("tree(0)", x.tree(0), NO);
  }

  // ---- promises 2 to 5

  private static void feedsLowest() {
    int[] bytes = {0x81, 0x92, 0xA3, 0xB4, 0xC5, 0xD6, 0xE7, 0xF8};
    for (int n = 1; n <= 8; n++) {
      GlulxStrings x = new GlulxStrings();
      is("feed(1, 7)", x.feed(1, 7), 1);
      is("feed(" + n + ", ..)", x.feed(n, 0x8192A3B4C5D6E7F8L), 1 + n);
      is("load(10)", x.load(10), 1 + n);
      bytes(x, "feed(" + n + ", ..)", 10, b(7), java.util.Arrays.copyOfRange(bytes, 8 - n, 8), b(0));
    }
    GlulxStrings x = new GlulxStrings();
    x.feed(8, Long.MIN_VALUE);
    x.feed(8, -1);
    x.load(0);
    bytes(x, "feed(8, MIN), feed(8, -1)", 0, b(128, 0, 0, 0, 0, 0, 0, 0), row(8, 255));
  }

  private static void feedBad() {
    for (int n : new int[] {0, 9, -1, MIN, MAX}) {
      GlulxStrings x = new GlulxStrings();
      x.feed(1, 5);
      is("feed(" + n + ", 1)", x.feed(n, 1), BAD);
      is("told(13)", x.told(13), 1);
    }
    is("feed(1, 1)", new GlulxStrings().feed(1, 1), 1);
    is("feed(8, 1)", new GlulxStrings().feed(8, 1), 8);
  }

  private static GlulxStrings withTape(int n) {
    GlulxStrings x = new GlulxStrings();
    for (int i = 0; i < n / 8; i++) {
      x.feed(8, 0);
    }
    if (n % 8 > 0) {
      x.feed(n % 8, 0);
    }
    return x;
  }

  private static void feedFull() {
    for (int n = 1; n <= 8; n++) {
      is("feed(" + n + ") with room for it", withTape(600 - n).feed(n, 1), 600);
      GlulxStrings x = withTape(601 - n);
      is("feed(" + n + ") with room for one less", x.feed(n, 1), FULL);
      is("told(13)", x.told(13), 601 - n);
    }
  }

  private static void loadsAtEdges() {
    GlulxStrings x = new GlulxStrings();
    is("load(0)", put(x, 0, b(1, 2)), 2);
    is("load(4094)", put(x, 4094, b(3, 4)), 2);
    bytes(x, "load(0)", 0, b(1, 2, 0));
    bytes(x, "load(4094)", 4093, b(0, 3, 4));
    is("load(4096) of nothing", x.load(4096), 0);
    is("load(0) of nothing", x.load(0), 0);
    bytes(x, "load(0) of nothing", 0, b(1, 2, 0));
  }

  private static void loadsBelowBorder() {
    GlulxStrings x = new GlulxStrings();
    x.border(4096);
    is("load(4094)", put(x, 4094, b(5, 6)), 2);
    bytes(x, "load(4094)", 4094, b(5, 6));
    x.border(51);
    is("load(50)", put(x, 50, b(7, 8)), 2);
    bytes(x, "load(50)", 50, b(7, 8));
  }

  private static void tapeIsEmptyThen() {
    GlulxStrings x = new GlulxStrings();
    x.feed(3, 0x010203);
    is("load(20)", x.load(20), 3);
    is("told(13)", x.told(13), 0);
    is("load(30)", x.load(30), 0);
    is("byteAt(30)", x.byteAt(30), 0);
    x.feed(1, 9);
    is("load(40)", x.load(40), 1);
    bytes(x, "load(40)", 40, b(9, 0));
  }

  private static void loadBad() {
    for (int at : new int[] {-1, 4095, 4096, MIN, MAX}) {
      GlulxStrings x = new GlulxStrings();
      is("load(" + at + ") of two", put(x, at, b(1, 2)), BAD);
      is("byteAt(0)", x.byteAt(0), 0);
      is("byteAt(4095)", x.byteAt(4095), 0);
    }
    is("load(4096) of one", put(new GlulxStrings(), 4096, b(1)), BAD);
    is("load(4095) of one", put(new GlulxStrings(), 4095, b(1)), 1);
    is("load(3497) of 600", put(new GlulxStrings(), 3497, row(600, 1)), BAD);
    is("load(3496) of 600", put(new GlulxStrings(), 3496, row(600, 1)), 600);
  }

  private static void tapeIsEmptyThenToo() {
    for (int at : new int[] {-1, 4095, MAX}) {
      GlulxStrings x = new GlulxStrings();
      put(x, at, b(1, 2));
      is("told(13)", x.told(13), 0);
      is("feed(1, 9)", x.feed(1, 9), 1);
      is("load(4095)", x.load(4095), 1);
      is("byteAt(4095)", x.byteAt(4095), 9);
    }
  }

  private static void borderBefore() {
    GlulxStrings x = new GlulxStrings();
    is("border(4096)", x.border(4096), 0);
    is("border(4096) again", x.border(4096), 4096);
    is("border(0)", x.border(0), 4096);
    is("border(1)", x.border(1), 0);
    is("told(11)", x.told(11), 1);
    x.number(5, 0);
    is("border(2) with JOBS", x.border(2), 1);
  }

  private static void borderBad() {
    for (int n : new int[] {-1, 4097, MIN, MAX}) {
      GlulxStrings x = new GlulxStrings();
      x.border(9);
      is("border(" + n + ")", x.border(n), BAD);
      is("told(11)", x.told(11), 9);
    }
    is("border(0)", new GlulxStrings().border(0), 0);
    is("border(4096)", new GlulxStrings().border(4096), 0);
  }

  private static void byteAtNone() {
    GlulxStrings x = new GlulxStrings();
    put(x, 0, b(255));
    put(x, 4095, b(128));
    is("byteAt(0)", x.byteAt(0), 255);
    is("byteAt(4095)", x.byteAt(4095), 128);
    for (int at : new int[] {-1, 4096, MIN, MAX}) {
      is("byteAt(" + at + ")", x.byteAt(at), NONE);
    }
  }
}
