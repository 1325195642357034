/** The edges of the document's part 5 THE CACHE, and of promise 6. */
public final class EdgesOfCacheTest extends Edges {
  public static void main(String[] args) {
    begin("EdgesOfCacheTest");
    told();
    nodes();
    drops();
    table();
    end();
  }

  private static void told() {
    holds("When the TREE's address is told (by table(), or ORDER 5, also the same again)", EdgesOfCacheTest::toldAgain);
    holds("or ORDER 5, also the same again", EdgesOfCacheTest::toldByOrder);
    holds("and it is not 0", EdgesOfCacheTest::notZero);
    holds("and the first 12 bytes", EdgesOfCacheTest::firstTwelve);
    holds("and all that its first FOUR tells (12 at least; not beyond MEMORY) lie below the BORDER, the TREE is CACHED; else it is not.",
        EdgesOfCacheTest::belowBorder);
    holds("12 at least", EdgesOfCacheTest::twelveAtLeast);
    holds("not beyond MEMORY", EdgesOfCacheTest::notBeyondMemory);
  }

  private static void nodes() {
    holds("NODES in it: the ROOT", EdgesOfCacheTest::rootInIt);
    holds("and both nodes of each BRANCH among them", EdgesOfCacheTest::bothNodes);
    holds("each address once", EdgesOfCacheTest::eachOnce);
    holds("that lie whole (with all their bytes", EdgesOfCacheTest::whole);
    holds("rows with their end", EdgesOfCacheTest::rowsWithEnd);
    holds("of 10, 11 with a number of ARGUMENTS that is not 0 .. 4 the first nine", EdgesOfCacheTest::firstNine);
    holds("in the bytes of the TREE", EdgesOfCacheTest::inTheBytes);
    holds("and have a kind that is told.", EdgesOfCacheTest::kindIsTold);
  }

  private static void drops() {
    holds("It is dropped when a byte of the TREE is told by load(), also the same again", EdgesOfCacheTest::droppedByLoad);
    holds("when a byte of the TREE is told", EdgesOfCacheTest::notDroppedBeside);
    holds("or the BORDER is told anew.", EdgesOfCacheTest::droppedByBorder);
    holds("(What is printed does not hang on it.)", EdgesOfCacheTest::printedAlike);
    holds("as if told by load()", EdgesOfCacheTest::droppedByTree);
  }

  private static void table() {
    holds("The TREE lies at an address (any; 0: none): how many NODES are CACHED then.", EdgesOfCacheTest::anyAddress);
    holds("NO: JOBS are there.", EdgesOfCacheTest::jobsAreThere);
    holds("15 NODES that are CACHED (0: it is not, too)", EdgesOfCacheTest::toldZero);
  }

  /** A tree at TREE, of so many bytes as it tells, with the BORDER at the end of MEMORY. */
  private static GlulxStrings lying(int size, int root, int[]... nodes) {
    GlulxStrings x = toOut();
    x.border(4096);
    put(x, TREE, head(size, root), join(nodes));
    return x;
  }

  private static void cached(String what, int want, int size, int[]... nodes) {
    GlulxStrings x = lying(size, ROOT, nodes);
    is(what, x.table(TREE), want);
    is(what + ": told(15)", x.told(15), want);
  }

  // ---- told

  private static void toldAgain() {
    GlulxStrings x = lying(13, ROOT, END);
    x.border(ROOT);
    is("table above the BORDER", x.table(TREE), 0);
    x.border(ROOT + 1);
    is("told(15), not told again", x.told(15), 0);
    is("table again", x.table(TREE), 1);
    is("table a third time", x.table(TREE), 1);
    put(x, ROOT, b(6));
    is("told(15) behind load()", x.told(15), 0);
    is("table of what lies there now", x.table(TREE), 0);
    put(x, ROOT, END);
    is("told(15) when it lies there again", x.told(15), 0);
    is("table of it", x.table(TREE), 1);
  }

  private static void toldByOrder() {
    GlulxStrings x = lying(13, ROOT, END);
    put(x, CODE, function(193, 0, order(5, value(TREE)), order(10, b(0), by(-10))));
    is("call(CODE, 1)", x.call(CODE, 1), HELD);
    is("told(15)", x.told(15), 1);
    x.border(4096);
    is("told(15) behind border()", x.told(15), 0);
    is("resume(2)", x.resume(2), HELD);
    is("told(15) when it is told again", x.told(15), 1);
    put(x, ROOT, END);
    is("told(15) behind load()", x.told(15), 0);
    is("resume(2)", x.resume(2), HELD);
    is("told(15) when it is told again", x.told(15), 1);
    x.stop();
    put(x, CODE, function(193, 0, order(5, value(TREE + 1)), OVER));
    is("call", x.call(CODE, 9), 0);
    is("told(15) of another address", x.told(15), 0);
  }

  private static void notZero() {
    GlulxStrings x = new GlulxStrings();
    x.border(4096);
    put(x, 0, head(13, 12), END);
    is("table(0)", x.table(0), 0);
    is("told(15)", x.told(15), 0);
    put(x, 1, head(13, 13), END);
    is("table(1)", x.table(1), 1);
    is("table(0) behind it", x.table(0), 0);
    is("told(15) behind it", x.told(15), 0);
  }

  /** The head is a node, too: of kind 1, as its second FOUR begins with it. */
  private static void firstTwelve() {
    GlulxStrings x = lying(12, TREE + 4);
    put(x, TREE + 4, END);
    for (int border = TREE; border <= TREE + 12; border++) {
      x.border(border);
      is("table of 12 bytes with the BORDER at " + border, x.table(TREE), border == TREE + 12 ? 1 : 0);
    }
    x.border(4096);
    put(x, 4084, head(12, 4088));
    put(x, 4088, END);
    is("table(4084)", x.table(4084), 1);
    put(x, 4085, four(12, 0x01000000), b(0, 0, 15));
    for (int at : new int[] {4085, 4092, 4093, 4095, 4096, -1, -4, -12, -13, MIN, MAX, MAX - 11}) {
      is("table(" + at + ")", x.table(at), 0);
    }
  }

  private static void belowBorder() {
    for (int size : new int[] {13, 20, 300}) {
      GlulxStrings x = lying(size, ROOT, END);
      x.border(TREE + size - 1);
      is("table of " + size + " with its last byte at the BORDER", x.table(TREE), 0);
      x.border(TREE + size);
      is("table of " + size + " below the BORDER", x.table(TREE), 1);
    }
    GlulxStrings x = lying(13, ROOT, END);
    x.border(0);
    is("table with the BORDER at 0", x.table(TREE), 0);
  }

  private static void twelveAtLeast() {
    for (int size : new int[] {11, 1, 0, -1, MIN}) {
      GlulxStrings x = lying(size, TREE + 4);
      put(x, TREE + 4, END);
      is("table of " + size, x.table(TREE), 0);
    }
    GlulxStrings x = lying(12, TREE + 4);
    put(x, TREE + 4, END);
    is("table of 12", x.table(TREE), 1);
  }

  private static void notBeyondMemory() {
    for (int size : new int[] {4096 - TREE + 1, 4096, MAX, MAX - TREE, MAX - TREE + 1}) {
      is("table of " + size, lying(size, ROOT, END).table(TREE), 0);
    }
    is("table up to the end of MEMORY", lying(4096 - TREE, ROOT, END).table(TREE), 1);
  }

  // ---- nodes

  private static void rootInIt() {
    for (int root : new int[] {TREE - 1, TREE + 14, -1, 0, 4096, MIN, MAX}) {
      GlulxStrings x = lying(14, root, END, END);
      put(x, TREE - 1, END);
      put(x, TREE + 14, END);
      is("table with its ROOT at " + root, x.table(TREE), 0);
    }
    is("table with its ROOT at its last byte", lying(14, TREE + 13, END, END).table(TREE), 1);
    // Its first byte is a BRANCH, as the FOUR of a size begins with 0; it leads to what is no node of it.
    is("table with its ROOT at its first byte", lying(14, TREE, END, END).table(TREE), 1);
  }

  private static void bothNodes() {
    cached("two ENDs", 3, 23, branch(121, 122), END, END);
    cached("a branch for a bit 0", 5, 33, branch(121, 132), branch(130, 131), END, END, END);
    cached("a branch for a bit 1", 5, 33, branch(130, 121), branch(131, 132), END, END, END);
    cached("bit 0 outside", 2, 22, branch(TREE - 1, 121), END);
    cached("bit 1 outside", 2, 22, branch(121, TREE + 22), END);
    cached("both outside", 1, 22, branch(-1, 4096), END);
    // FOURs of another node than a BRANCH lead nowhere, though they could be addresses of nodes.
    for (int kind : new int[] {4, 8, 9}) {
      cached("a node " + kind, 1, 23, node(kind, 121, 122), END, END);
    }
    cached("a node 5", 1, 27, node(5, 125, 126, 0), END, END);
    cached("a node 10", 1, 35, node(10, 133, 2, 134, 133), END, END);
  }

  private static void eachOnce() {
    cached("both at one", 2, 22, branch(121, 121), END);
    cached("the ROOT again", 2, 22, branch(112, 121), END);
    cached("a ring of two", 2, 30, branch(121, 121), branch(112, 112));
    cached("a node within another", 2, 22, branch(113, 112), b(0));
    // A row of forty BRANCHES, each with END and the next one; the last one with the ROOT.
    int[] nodes = END;
    for (int i = 0; i < 40; i++) {
      nodes = join(nodes, branch(ROOT, i < 39 ? ROOT + 1 + 9 * (i + 1) : ROOT + 1));
    }
    GlulxStrings x = lying(12 + nodes.length, ROOT + 1, nodes);
    is("a row of forty", x.table(TREE), 41);
  }

  /** Whole in the tree, and with each number of bytes too few; behind it there are 0s. */
  private static void wholeOrNot(int... node) {
    for (int n = 0; n <= node.length; n++) {
      cached("a node " + node[0] + " with " + n + " of " + node.length, n == node.length ? 1 : 0, 12 + n,
          node, row(40, 0));
    }
  }

  private static void whole() {
    wholeOrNot(branch(-1, -1));
    wholeOrNot(END);
    wholeOrNot(2, 65);
    wholeOrNot(node(4, 65));
    wholeOrNot(node(8, 65));
    wholeOrNot(node(9, 65));
    for (int n = 0; n <= 4; n++) {
      wholeOrNot(join(node(10, 65, n), row(4 * n, 7)));
      wholeOrNot(join(node(11, 65, n), row(4 * n, 7)));
    }
    // At the end of MEMORY.
    GlulxStrings x = new GlulxStrings();
    x.border(4096);
    put(x, 4079, head(17, 4091), node(4, 65));
    is("a node 4 at the end of MEMORY", x.table(4079), 1);
    put(x, 4080, head(16, 4092), b(4, 0, 0, 0));
    is("a node 4 beyond it", x.table(4080), 0);
    for (int kind = 0; kind <= 12; kind++) {
      put(x, 4083, head(13, 4095), b(kind));
      is("a node " + kind + " in the last byte of MEMORY", x.table(4083), kind == 1 ? 1 : 0);
    }
    for (int n = 1; n <= 9; n++) {
      put(x, 4084 - n, head(12 + n, 4096 - n), b(10), row(n - 1, 0));
      is("a node 10 in the last " + n + " bytes of MEMORY", x.table(4084 - n), n == 9 ? 1 : 0);
    }
  }

  private static void rowsWithEnd() {
    wholeOrNot(3, 0);
    wholeOrNot(3, 65, 66, 67, 0);
    wholeOrNot(node(5, 0));
    wholeOrNot(node(5, 65, 0x01000000, -1, 0));
    // A byte 0 ahead of the row is not its end.
    GlulxStrings ahead = lying(16, ROOT + 1, b(0, 3, 65, 66, 0));
    is("a row behind a byte 0", ahead.table(TREE), 0);
    put(ahead, TREE, four(17));
    is("a row behind a byte 0, with its end", ahead.table(TREE), 1);
    // FOURs that are not 0 have four bytes 0 among them.
    cached("no FOUR 0", 0, 12 + 9, b(5), four(0x01000000, 1), row(8, 1));
    cached("a FOUR 0 askew", 0, 12 + 13, b(5), four(0x01000000, 0x00000001, 0x01010101), row(8, 1));
    GlulxStrings x = new GlulxStrings();
    x.border(4096);
    put(x, 4080, head(16, 4092), b(3, 65, 66, 67));
    is("a row without its end in MEMORY", x.table(4080), 0);
    put(x, 4095, b(0));
    is("a row with its end at the end of MEMORY", x.table(4080), 1);
    put(x, 4080, head(16, 4092), b(5, 0, 0, 0));
    is("a row of FOURs without its end in MEMORY", x.table(4080), 0);
  }

  private static void firstNine() {
    for (int kind = 10; kind <= 11; kind++) {
      for (int n : new int[] {5, -1, MIN, MAX}) {
        wholeOrNot(node(kind, 65, n));
      }
    }
  }

  private static void inTheBytes() {
    // The bytes of the TREE are its head, too.
    is("the ROOT in the head", lying(17, TREE + 8, row(5, 0)).table(TREE), 1);
    is("the ROOT in the head, with a byte too few", lying(16, TREE + 8, row(5, 0)).table(TREE), 0);
    GlulxStrings x = lying(12, TREE + 11);
    put(x, TREE + 4, row(4, 1));
    // Its last byte is that of its ROOT's address: 111, no kind.
    is("the ROOT in the last byte of the head", x.table(TREE), 0);
    put(x, TREE + 8, four(TREE + 7));
    is("the ROOT in the second FOUR", x.table(TREE), 1);
    put(x, TREE + 8, four(TREE - 1));
    put(x, TREE - 1, END);
    is("the ROOT ahead of it", x.table(TREE), 0);
    put(x, TREE + 8, four(TREE + 12));
    put(x, TREE + 12, END);
    is("the ROOT behind it", x.table(TREE), 0);
  }

  private static void kindIsTold() {
    for (int kind = 0; kind < 256; kind++) {
      boolean told = kind <= 5 || kind >= 8 && kind <= 11;
      cached("a node " + kind, told ? 1 : 0, 60, b(kind), row(47, 0), row(20, 1));
    }
    cached("a branch with one node that has no kind", 2, 23, branch(121, 122), b(6), END);
  }

  // ---- drops

  private static GlulxStrings three() {
    GlulxStrings x = lying(23, ROOT, branch(121, 122), END, END);
    is("table", x.table(TREE), 3);
    return x;
  }

  private static void droppedByLoad() {
    for (int at = TREE; at < TREE + 23; at++) {
      GlulxStrings x = three();
      put(x, at, b(x.byteAt(at)));
      is("told(15) behind the same byte at " + at, x.told(15), 0);
      is("told(10)", x.told(10), TREE);
      is("table again", x.table(TREE), 3);
    }
    GlulxStrings x = three();
    put(x, TREE - 3, row(3, 0), four(23));
    is("told(15) behind its first bytes", x.told(15), 0);
    x = three();
    put(x, TREE - 10, row(60, 0));
    is("told(15) behind more than all of it", x.told(15), 0);
    x = three();
    put(x, TREE + 22, b(1, 2, 3));
    is("told(15) behind its last byte", x.told(15), 0);
  }

  private static void notDroppedBeside() {
    GlulxStrings x = three();
    put(x, TREE - 4, b(1, 2, 3, 4));
    put(x, TREE + 23, b(1, 2, 3, 4));
    put(x, 0, b(1));
    put(x, 4095, b(1));
    is("load(105) of nothing", x.load(TREE + 5), 0);
    x.feed(2, 1);
    is("load(4095) of two", x.load(4095), BAD);
    x.feed(2, 1);
    is("load(-1)", x.load(-1), BAD);
    is("told(15)", x.told(15), 3);
    // Nor by a function, that can't change it.
    put(x, CODE, function(193, 0, order(15, value(TREE), b(0)), OVER));
    is("15", x.call(CODE, 9), fault(7));
    is("told(15)", x.told(15), 3);
    x.number(5, 0);
    is("table(TREE) with JOBS", x.table(TREE), NO);
    is("told(15)", x.told(15), 3);
  }

  private static void droppedByBorder() {
    for (int border : new int[] {4096, 0, TREE + 23, 4095}) {
      GlulxStrings x = three();
      x.border(border);
      is("told(15) behind border(" + border + ")", x.told(15), 0);
      is("told(10)", x.told(10), TREE);
      is("table again", x.table(TREE), border == 0 ? 0 : 3);
    }
    GlulxStrings x = three();
    is("border(-1)", x.border(-1), BAD);
    is("border(4097)", x.border(4097), BAD);
    is("told(15) behind BAD", x.told(15), 3);
    x.number(5, 0);
    x.border(4096);
    is("told(15) with JOBS", x.told(15), 0);
  }

  private static void printedAlike() {
    GlulxStrings x = lying(24, ROOT, branch(121, 122), END, b(2, 65));
    put(x, STRING, b(225, 1));
    is("table", x.table(TREE), 3);
    is("print, CACHED", x.print(STRING, 9), 1);
    put(x, LEAF + 1, b(66));
    is("told(15)", x.told(15), 0);
    is("print, dropped", x.print(STRING, 9), 1);
    x.border(0);
    is("table above the BORDER", x.table(TREE), 0);
    is("print, not CACHED", x.print(STRING, 9), 1);
    out(x, "print", 65, 66, 66);
    // Nodes that are not in the TREE are read all the same.
    x = lying(21, ROOT, branch(121, 122), END, b(2, 65));
    put(x, STRING, b(225, 1));
    is("table of a ROOT alone", x.table(TREE), 1);
    is("print by nodes outside of the TREE", x.print(STRING, 9), 1);
    // While a string is HELD, what load() tells is seen.
    is("print, a STEP", x.print(STRING, 1), HELD);
    put(x, LEAF, b(2, 67));
    is("resume(9)", x.resume(9), 1);
    is("at(1)", x.at(1), 67);
  }

  /** A tree of 13 bytes and a text of one are laid. */
  private static void droppedByTree() {
    int[] apart = {TREE - 14, TREE + 23};
    for (int at : apart) {
      GlulxStrings x = three();
      x.text();
      is("tree(" + at + ")", x.tree(at), 0);
      is("told(15) behind tree(" + at + ")", x.told(15), 3);
    }
    int[] touching = {TREE - 13, TREE, TREE + 5, TREE + 22};
    for (int at : touching) {
      GlulxStrings x = three();
      x.text();
      is("tree(" + at + ")", x.tree(at), 0);
      is("told(15) behind tree(" + at + ")", x.told(15), 0);
    }
    GlulxStrings x = three();
    is("tree(TREE) without a TEXT", x.tree(TREE), NO);
    x.text();
    is("tree(-1)", x.tree(-1), BAD);
    is("tree(4083)", x.tree(4083), FULL);
    is("told(15) behind what is refused", x.told(15), 3);
    x = new GlulxStrings();
    x.border(4096);
    x.text();
    x.tree(TREE);
    is("table", x.table(TREE), 1);
    x.tree(TREE);
    is("told(15) behind the same again", x.told(15), 0);
  }

  // ---- promise 6

  private static void anyAddress() {
    for (int at : new int[] {0, 1, -1, 4095, 4096, MIN, MAX}) {
      GlulxStrings x = three();
      is("table(" + at + ")", x.table(at), 0);
      is("told(10)", x.told(10), at);
      is("told(15)", x.told(15), 0);
    }
  }

  private static void jobsAreThere() {
    GlulxStrings x = three();
    x.number(5, 0);
    is("table(0)", x.table(0), NO);
    is("table(TREE)", x.table(TREE), NO);
    is("told(10)", x.told(10), TREE);
    is("told(15)", x.told(15), 3);
    x.stop();
    is("table(0)", x.table(0), 0);
  }

  private static void toldZero() {
    GlulxStrings x = lying(12, ROOT, END);
    is("table of a TREE that is CACHED, without NODES", x.table(TREE), 0);
    is("told(15)", x.told(15), 0);
    is("told(15) of a new object", new GlulxStrings().told(15), 0);
    x = three();
    is("told(15)", x.told(15), 3);
    x.table(0);
    is("told(15) without a TREE", x.told(15), 0);
  }
}
