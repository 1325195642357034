import java.util.function.IntSupplier;

/**
 * What the tests of the document's edges have in common. Each sentence of the document that names an
 * edge stands in a main method, word for word, beside the test of its own that it has.
 */
abstract class Edges {
  static final int NONE = GlulxStrings.NONE;
  static final int BAD = GlulxStrings.BAD;
  static final int NO = GlulxStrings.NO;
  static final int FULL = GlulxStrings.FULL;
  static final int HELD = GlulxStrings.HELD;
  static final int MIN = Integer.MIN_VALUE;
  static final int MAX = Integer.MAX_VALUE;

  /** Where tests put their strings, their functions and their tree; its ROOT lies behind its head. */
  static final int STRING = 500;
  static final int CODE = 1000;
  static final int TREE = 100;
  static final int ROOT = TREE + 12;

  static final int[] NOWHERE = {255};
  /** ORDER 17: all that is under way is over. */
  static final int[] OVER = {17};
  static final int[] END = {1};

  private static Due due;

  static void begin(String test) {
    due = new Due(test);
  }

  static void holds(String sentence, Runnable test) {
    due.holds(sentence, test);
  }

  static void end() {
    due.end();
  }

  static void is(String call, long got, long want) {
    due.is(call, got, want);
  }

  static void out(GlulxStrings x, String call, int... signs) {
    due.out(x, call, signs);
  }

  /** A call that is refused, and behind it all is as it was. */
  static void refused(GlulxStrings x, String call, IntSupplier asked, int want) {
    refusedBut(-1, x, call, asked, want);
  }

  /** Likewise, but one thing that told() tells may change. */
  static void refusedBut(int what, GlulxStrings x, String call, IntSupplier asked, int want) {
    String before = State.of(x, what);
    is(call, asked.getAsInt(), want);
    due.same(call + ": the state", State.of(x, what), before);
  }

  static int fault(int number) {
    return Due.fault(number);
  }

  // ---- bytes

  static int[] b(int... bytes) {
    return bytes;
  }

  static int[] four(int... numbers) {
    return Due.four(numbers);
  }

  static int[] join(int[]... rows) {
    return Due.join(rows);
  }

  static int[] row(int n, int c) {
    int[] row = new int[n];
    java.util.Arrays.fill(row, c);
    return row;
  }

  static int put(GlulxStrings x, int at, int[]... rows) {
    return Due.put(x, at, join(rows));
  }

  static void bytes(GlulxStrings x, String what, int at, int[]... rows) {
    int[] want = join(rows);
    for (int i = 0; i < want.length; i++) {
      is(what + ": byteAt(" + (at + i) + ")", x.byteAt(at + i), want[i] & 255);
    }
  }

  // ---- nodes

  static int[] branch(int zero, int one) {
    return join(b(0), four(zero, one));
  }

  /** A node of a byte and FOURs. */
  static int[] node(int kind, int... fours) {
    return join(b(kind), four(fours));
  }

  static int[] head(int size, int root) {
    return four(size, 0, root);
  }

  /** The nodes lie from the ROOT on, and SIGNS go to the OUT. */
  static GlulxStrings withTree(int[]... nodes) {
    GlulxStrings x = toOut();
    int[] all = join(nodes);
    put(x, TREE, head(12 + all.length, ROOT), all);
    x.table(TREE);
    return x;
  }

  /** The ROOT leads to END by a bit 0, and to the node by a bit 1; the string STRING takes 1, then 0. */
  static GlulxStrings withLeaf(int... node) {
    GlulxStrings x = withTree(branch(LEAF - 1, LEAF), END, node);
    put(x, STRING, b(225, 1));
    return x;
  }

  static final int LEAF = ROOT + 10;

  static GlulxStrings toOut() {
    GlulxStrings x = new GlulxStrings();
    x.system(2, 0);
    return x;
  }

  // ---- functions

  static int[] order(int number, int[]... parts) {
    return join(b(number), join(parts));
  }

  static int[] value(int v) {
    return join(b(2), four(v));
  }

  static int[] local(int i) {
    return b(3, i);
  }

  static int[] to(int i) {
    return b(i);
  }

  static int[] by(int d) {
    return b(d >> 8 & 255, d & 255);
  }

  static int[] function(int kind, int locals, int[]... orders) {
    return join(b(kind, locals), join(orders));
  }

  /** A function of kind 193 at CODE, and SIGNS go to the OUT. */
  static GlulxStrings withCode(int locals, int[]... orders) {
    GlulxStrings x = toOut();
    put(x, CODE, function(193, locals, orders));
    return x;
  }

  /** What ORDER 0 ends the function with, which has eight LOCALS. */
  static void result(String what, int want, int[]... orders) {
    GlulxStrings x = withCode(8, orders);
    is(what, x.call(CODE, 1000), 0);
    is(what + ": told(6)", x.told(6), want);
  }

  /** The function at CODE ends in a FAULT, in its first STEP. */
  static void faults(String what, int want, int locals, int[]... orders) {
    GlulxStrings x = withCode(locals, orders);
    is(what, x.call(CODE, 1), fault(want));
  }

  // ---- packing

  static void line(GlulxStrings x, int... signs) {
    Due.line(x, signs);
  }

  static int piece(GlulxStrings x, int kind, int... signs) {
    return Due.piece(x, kind, signs);
  }

  static int text(GlulxStrings x, int... signs) {
    return Due.text(x, signs);
  }
}
