/** Promise 6, and what the document says of the cache. */
public final class TableTest {
  private static final Due due = new Due("TableTest");

  public static void main(String[] args) {
    answers();
    conditions();
    sizes();
    rings();
    drops();
    byOrder();
    due.end();
  }

  /** A tree at an address whose nodes begin at its ROOT, twelve bytes on. */
  private static int[] tree(int at, int size, int... nodes) {
    return Due.join(Due.four(size, 0, at + 12), nodes);
  }

  private static void answers() {
    GlulxStrings x = new GlulxStrings();
    due.is("table(-5)", x.table(-5), 0);
    due.is("told(10)", x.told(10), -5);
    due.is("table(MAX)", x.table(Integer.MAX_VALUE), 0);
    due.is("told(10)", x.told(10), Integer.MAX_VALUE);
    due.is("table(0)", x.table(0), 0);
    x.number(5, 0);
    due.is("table(9) with JOBS", x.table(9), Due.NO);
    due.is("told(10) behind NO", x.told(10), 0);
  }

  private static void conditions() {
    GlulxStrings x = new GlulxStrings();
    Due.put(x, 100, tree(100, 13, 1));
    x.border(112);
    due.is("table with its nodes at the BORDER", x.table(100), 0);
    x.border(113);
    due.is("table just below the BORDER", x.table(100), 1);
    due.is("told(15)", x.told(15), 1);
    x.border(4096);
    Due.put(x, 100, tree(100, 11, 1));
    due.is("table of 11 bytes", x.table(100), 0);
    Due.put(x, 100, tree(100, -1, 1));
    due.is("table of -1 bytes", x.table(100), 0);
    Due.put(x, 100, tree(100, 3997, 1));
    due.is("table of bytes beyond MEMORY", x.table(100), 0);
    Due.put(x, 100, tree(100, Integer.MAX_VALUE, 1));
    due.is("table of MAX bytes", x.table(100), 0);
    Due.put(x, 100, tree(100, 3996, 1));
    due.is("table up to the end of MEMORY", x.table(100), 1);
    Due.put(x, 100, tree(100, 12, 1));
    due.is("table whose ROOT is outside of it", x.table(100), 0);
    Due.put(x, 100, Due.four(12, 0x01000000, 104));
    due.is("table whose ROOT is in its head", x.table(100), 1);
    x.border(112);
    due.is("table of 12 bytes up to the BORDER", x.table(100), 1);
    x.border(111);
    due.is("table of 12 bytes beyond the BORDER", x.table(100), 0);
    x.border(4096);
    // The head as a BRANCH: its FOUR 16 tells a node at 4096 and more, the other is at 0.
    Due.put(x, 100, Due.four(16, 0, 100));
    due.is("table whose ROOT is its first byte", x.table(100), 1);
    Due.put(x, 1, tree(1, 13, 1));
    due.is("table(1)", x.table(1), 1);
    Due.put(x, 0, Due.four(13, 0, 12, 0x01000000));
    due.is("table(0)", x.table(0), 0);
    due.is("table(4085)", x.table(4085), 0);
    due.is("table(-4)", x.table(-4), 0);
  }

  /** Each kind of node, whole in the tree, and with a byte too few. */
  private static void sizes() {
    GlulxStrings x = new GlulxStrings();
    x.border(4096);
    int[][] nodes = {
      {1}, {2, 65}, {3, 65, 66, 0}, {3, 0}, {4, 0, 0, 0, 65}, {5, 0, 0, 0, 65, 0, 0, 0, 0},
      {5, 0, 0, 0, 0}, {8, 0, 0, 1, 0}, {9, 0, 0, 1, 0},
      {10, 0, 0, 1, 0, 0, 0, 0, 0}, {11, 0, 0, 1, 0, 0, 0, 0, 1, 0, 0, 0, 9},
      {10, 0, 0, 1, 0, 0, 0, 0, 4, 0, 0, 0, 9, 0, 0, 0, 9, 0, 0, 0, 9, 0, 0, 0, 9},
      {10, 0, 0, 1, 0, 0, 0, 0, 5}, {11, 0, 0, 1, 0, 255, 255, 255, 255},
    };
    for (int[] node : nodes) {
      // What lies behind the tree is 0, so that rows would have an end there.
      Due.put(x, 200, Due.join(tree(200, 12 + node.length, node), new int[40]));
      due.is("table of a node " + node[0] + " of " + node.length, x.table(200), 1);
      Due.put(x, 200, Due.join(tree(200, 11 + node.length, node), new int[40]));
      due.is("table of a node " + node[0] + " of " + node.length + " less one", x.table(200), 0);
    }
    // A 0 ahead of a row is not its end.
    Due.put(x, 500, Due.join(Due.four(16, 0, 513), Due.b(0, 3, 65, 66, 0)));
    due.is("table of a row with its end behind the tree", x.table(500), 0);
    Due.put(x, 500, Due.four(17));
    due.is("table of a row with its end", x.table(500), 1);
    for (int kind : new int[] {6, 7, 12, 224, 255}) {
      Due.put(x, 200, tree(200, 40, kind));
      due.is("table of a node " + kind, x.table(200), 0);
    }
  }

  private static void rings() {
    GlulxStrings x = new GlulxStrings();
    x.border(4096);
    Due.put(x, 300, tree(300, 21, Due.join(Due.b(0), Due.four(312, 312))));
    due.is("table of a ring", x.table(300), 1);
    Due.put(x, 300, tree(300, 20, Due.join(Due.b(0), Due.four(312, 312))));
    due.is("table of a branch with a byte too few", x.table(300), 0);
    Due.put(x, 300, tree(300, 22, Due.join(Due.b(0), Due.four(321, 321), Due.b(1))));
    due.is("table of a branch with one node twice", x.table(300), 2);
    Due.put(x, 300, tree(300, 22, Due.join(Due.b(0), Due.four(321, 322), Due.b(1, 1))));
    due.is("table of a branch with one node outside", x.table(300), 2);
    Due.put(x, 300, tree(300, 22, Due.join(Due.b(0), Due.four(-1, 299), Due.b(1, 1))));
    due.is("table of a branch with both outside", x.table(300), 1);
  }

  private static GlulxStrings cached() {
    GlulxStrings x = new GlulxStrings();
    Due.put(x, 100, tree(100, 15, 3, 65, 0));
    x.border(200);
    due.is("table(100)", x.table(100), 1);
    return x;
  }

  private static void drops() {
    GlulxStrings x = cached();
    Due.put(x, 99, 1);
    Due.put(x, 115, 1);
    x.load(105);
    x.feed(1, 7);
    due.is("a BAD load", x.load(4096), Due.BAD);
    due.is("a BAD border", x.border(5000), Due.BAD);
    due.is("told(15) behind loads beside it", x.told(15), 1);
    Due.put(x, 114, 0);
    due.is("told(15) behind the same last byte again", x.told(15), 0);
    due.is("told(10) stays", x.told(10), 100);
    due.is("table(100) again", x.table(100), 1);
    Due.put(x, 99, 1, 0);
    due.is("told(15) behind the first byte", x.told(15), 0);
    x.table(100);
    due.is("border(200) again", x.border(200), 200);
    due.is("told(15) behind the same BORDER again", x.told(15), 0);
    x.table(100);
    Due.text(x);
    due.is("tree(112)", x.tree(112), 0);
    due.is("told(15) behind tree() in it", x.told(15), 0);
    x = cached();
    Due.text(x);
    due.is("tree(115)", x.tree(115), 0);
    due.is("told(15) behind tree() beside it", x.told(15), 1);
    due.is("tree(86)", x.tree(86), 0);
    due.is("told(15) behind tree() ahead of it", x.told(15), 1);
    due.is("tree(87)", x.tree(87), 0);
    due.is("told(15) behind tree() with its last byte in it", x.told(15), 0);
  }

  private static void byOrder() {
    GlulxStrings x = cached();
    x.border(200);
    // The tree is told twice, then it is 0.
    Due.put(x, 1000, 193, 1, 5, 1, 100, 16, 0, 5, 3, 0, 5, 0, 0, 3, 0);
    x.call(1000, 1);
    due.is("told(15) behind ORDER 5", x.told(15), 1);
    x.border(200);
    due.is("told(15) behind border()", x.told(15), 0);
    due.is("resume(2)", x.resume(2), Due.HELD);
    due.is("job(0, 10)", x.job(0, 10), 100);
    due.is("told(15) behind the same again", x.told(15), 1);
    due.is("resume(2)", x.resume(2), 0);
    due.is("told(10) behind ORDER 5 with 0", x.told(10), 0);
    due.is("told(15) behind ORDER 5 with 0", x.told(15), 0);
  }
}
