import java.util.Random;

/** The sentences of the document that name no edge, from its first line on; those that name one are in EdgesOf..Test. */
public final class RestOfDocumentTest extends Edges {
  /** What the things of the tree ENDS lie at. */
  private static final int PLAIN = 600;
  private static final int WIDE = 610;
  private static final int INNER = 630;
  private static final int GIVER = 640;
  private static final int POINTERS = 660;

  public static void main(String[] args) {
    begin("RestOfDocumentTest");
    whatItIs();
    strings();
    functions();
    jobs();
    promises();
    notPromised();
    end();
  }

  private static void whatItIs() {
    holds("strings of three kinds lie in a memory of bytes", RestOfDocumentTest::threeKinds);
    holds("packed ones are read bit by bit through a tree of nodes", RestOfDocumentTest::bitByBit);
    holds("whose ends are signs, rows of signs, or other strings and functions that are gone into and come back from",
        RestOfDocumentTest::allEnds);
    holds("each sign goes to a row, to a filter function, or nowhere", RestOfDocumentTest::threeWays);
    holds("all stops and goes on by steps, in the midst of a string too", RestOfDocumentTest::byStepsOrAtOnce);
    holds("and texts are packed by the best tree for told pieces", RestOfDocumentTest::noTreeIsBetter);
  }

  private static void strings() {
    holds("STRINGS begin with a byte, their kind.", RestOfDocumentTest::kindsOfStrings);
    holds("THE TREE lies at an address", RestOfDocumentTest::treeAnywhere);
    holds("0 BRANCH: FOUR the node for a bit 0, FOUR that for a bit 1", RestOfDocumentTest::branchLeads);
    holds("1 END.", RestOfDocumentTest::endEnds);
    holds("A PACKED string is read from the ROOT on: at a BRANCH the next bit leads on;", RestOfDocumentTest::fromTheRoot);
  }

  private static void functions() {
    holds("FUNCTIONS: 192 or 193; a byte n, how many LOCALS (0 .. 8; else FAULT 4); then its code.",
        RestOfDocumentTest::codeBehindLocals);
    holds("CALLED with ARGUMENTS", RestOfDocumentTest::calledByAll);
    holds("CODE is a row of ORDERS: a byte, then what it needs, in this order: v, w: VALUES, each a byte",
        RestOfDocumentTest::orderByOrder);
  }

  private static void jobs() {
    holds("A STEP is: of a FUNCTION an ORDER;", RestOfDocumentTest::orderIsStep);
    holds("of 3 the next node, with the bits that lead to it: from the ROOT on through BRANCHES",
        RestOfDocumentTest::stepsOfPacked);
    holds("(The node of kind 2, 4: its SIGN is GIVEN; of 3, 5: a job 1, 2 begins; of 8 to 11: a string within it, or a FUNCTION is CALLED",
        RestOfDocumentTest::whatNodesBegin);
    holds("END: it is over.)", RestOfDocumentTest::endOfInner);
    holds("A SIGN GIVEN goes, by the SYSTEM", RestOfDocumentTest::systemWithinString);
    holds("its RESULT is lost. The SYSTEM is 0", RestOfDocumentTest::filterResult);
    holds("In a STEP that ends in a FAULT a job's own PLACE does not matter;", RestOfDocumentTest::anewBehindFault);
    holds("of several FAULTS of a STEP the one that comes first by this text, from the left to the right as it reads, is it.",
        RestOfDocumentTest::leftToRight);
  }

  private static void promises() {
    holds("Of JOB k (0 the lowest): what = 0 kind, 1 PLACE", RestOfDocumentTest::lowestFirst);
    holds("So far: what = 0 STEPS, 1 SIGNS to the OUT", RestOfDocumentTest::soFar);
    holds("(8, 9: the LINE is its address alone): its number.", RestOfDocumentTest::pieceNumbers);
    holds("(also an empty one): its number.", RestOfDocumentTest::textNumbers);
    holds("Of TEXT k: what = 0 where it was laid last", RestOfDocumentTest::laidOneByOne);
  }

  private static void notPromised() {
    holds("nothing about an object after its 512th call", RestOfDocumentTest::laterCallsEnd);
  }

  // ---- bits and trees

  /** A PACKED string of the bits, the lowest of each byte first. */
  private static int[] packed(String bits) {
    int[] bytes = new int[1 + (bits.length() + 7) / 8];
    bytes[0] = 225;
    for (int i = 0; i < bits.length(); i++) {
      bytes[1 + i / 8] |= (bits.charAt(i) - '0') << i % 8;
    }
    return bytes;
  }

  /** A tree whose ends lie in a row: end i behind i bits 1 and a bit 0, the last one behind bits 1 alone. */
  private static int[][] comb(int at, int[]... ends) {
    int[][] nodes = new int[2 * ends.length - 1][];
    int[] places = new int[ends.length];
    int branches = ends.length - 1;
    int next = at + 9 * branches;
    for (int i = 0; i < ends.length; i++) {
      places[i] = next;
      nodes[branches + i] = ends[i];
      next += ends[i].length;
    }
    for (int i = 0; i < branches; i++) {
      nodes[i] = branch(places[i], i == branches - 1 ? places[i + 1] : at + 9 * (i + 1));
    }
    return nodes;
  }

  private static String toEnd(int i, int ends) {
    return i == ends - 1 ? "1".repeat(i) : "1".repeat(i) + "0";
  }

  private static final int[][] ENDS = {
    {1}, {2, 'a'}, {3, 'b', 'c', 0}, node(4, 'd'), node(5, 'e', 'f', 0), node(8, PLAIN), node(9, POINTERS),
    node(10, GIVER, 1, 'k'), node(11, POINTERS + 4, 2, 'l', 'm'), node(8, INNER), node(10, WIDE, 2, 1, 2),
  };
  private static final int[] ALL_SIGNS = {'a', 'b', 'c', 'd', 'e', 'f', 'g', 'h', 'i', 'j', 'k', 'l', 'a', 'i', 'j'};

  /** A tree of all kinds of ends, and at STRING a string that comes to each of them. */
  private static GlulxStrings withAllEnds() {
    GlulxStrings x = withTree(comb(ROOT, ENDS));
    StringBuilder bits = new StringBuilder();
    for (int i = 1; i < ENDS.length; i++) {
      bits.append(toEnd(i, ENDS.length));
    }
    put(x, STRING, packed(bits + toEnd(0, ENDS.length)));
    put(x, PLAIN, b(224, 'g', 'h', 0));
    put(x, WIDE, b(226, 7, 7, 7), four('i', 'j', 0));
    put(x, INNER, packed(toEnd(1, ENDS.length) + toEnd(0, ENDS.length)));
    put(x, GIVER, function(193, 1, order(1, local(0)), order(0, b(1, 5))));
    put(x, POINTERS, four(WIDE, GIVER));
    return x;
  }

  // ---- what it is

  private static void threeKinds() {
    GlulxStrings x = withTree(comb(ROOT, END, b(2, 'a'), b(2, 'b')));
    put(x, 3000, b(224, 'a', 'b', 'a', 0));
    put(x, 3100, b(226, 1, 2, 3), four('a', 'b', 'a', 0));
    put(x, 3200, packed("10" + "11" + "10" + "0"));
    for (int at = 3000; at <= 3200; at += 100) {
      is("print(" + at + ", 100)", x.print(at, 100), 3);
      out(x, "print", 'a', 'b', 'a');
      x.clear();
    }
  }

  private static void bitByBit() {
    GlulxStrings x = withTree(comb(ROOT, END, b(2, 'a'), b(2, 'b'), b(2, 'c')));
    String bits = "10" + "111" + "110" + "111" + "0";
    put(x, STRING, packed(bits));
    is("print(STRING, 0)", x.print(STRING, 0), HELD);
    int read = 0;
    int ends = 0;
    for (int i = 0; i < bits.length() + 4; i++) {
      is("PLACE behind " + read + " bits", x.job(0, 1), STRING + 1 + read / 8);
      is("BIT behind " + read + " bits", x.job(0, 2), read % 8);
      // A STEP reads one bit, or comes to an end and reads none.
      boolean comesToEnd = x.job(0, 4) != NONE && x.byteAt(x.job(0, 4)) != 0;
      ends += comesToEnd ? 1 : 0;
      read += comesToEnd ? 0 : 1;
      is("resume(1)", x.resume(1), HELD);
    }
    is("bits", read, bits.length());
    is("ends", ends, 4);
    is("resume(1)", x.resume(1), 0);
    out(x, "bit by bit", 'a', 'c', 'b', 'c');
  }

  private static void allEnds() {
    GlulxStrings x = withAllEnds();
    is("print", x.print(STRING, 1000), ALL_SIGNS.length);
    out(x, "all ends", ALL_SIGNS);
  }

  private static void threeWays() {
    GlulxStrings x = new GlulxStrings();
    put(x, 10, b(224, 'a', 'b', 0));
    put(x, 20, function(193, 1, order(15, value(40), local(0)), order(0, b(0))));
    x.system(2, 0);
    is("to the OUT", x.print(10, 100), 2);
    x.system(1, 20);
    is("to a FUNCTION", x.print(10, 100), 0);
    is("which had the SIGN", x.byteAt(40), 'b');
    x.system(0, 20);
    is("nowhere", x.print(10, 100), 0);
    out(x, "OUT", 'a', 'b');
    for (int what = 1; what <= 3; what++) {
      is("told(" + what + ")", x.told(what), 2);
    }
  }

  private static void byStepsOrAtOnce() {
    int whole = stepsOfAll();
    for (int n = 1; n < whole; n++) {
      GlulxStrings x = withAllEnds();
      is("print(STRING, " + n + ")", x.print(STRING, n), HELD);
      int before = x.told(12);
      is("the rest", x.resume(100000), ALL_SIGNS.length - before);
      out(x, "stopped behind " + n, ALL_SIGNS);
      is("told(0)", x.told(0), whole);
    }
    GlulxStrings x = withAllEnds();
    is("print(STRING, all)", x.print(STRING, whole), ALL_SIGNS.length);
  }

  private static int stepsOfAll() {
    GlulxStrings x = withAllEnds();
    x.print(STRING, 100000);
    return x.told(0);
  }

  /** The least of the bits that any tree could take, by trying all ways to join two trees. */
  private static int leastBits(int[] uses, int n) {
    int least = n == 1 ? 0 : MAX;
    for (int i = 0; i < n; i++) {
      for (int k = i + 1; k < n; k++) {
        int[] rest = uses.clone();
        rest[i] += rest[k];
        rest[k] = rest[n - 1];
        least = Math.min(least, rest[i] + leastBits(rest, n - 1));
      }
    }
    return least;
  }

  private static void noTreeIsBetter() {
    Random random = new Random(7);
    for (int run = 0; run < 40; run++) {
      GlulxStrings x = toOut();
      int n = 1 + random.nextInt(5);
      int[] uses = new int[n + 1];
      int[] signs = new int[60];
      int length = 0;
      for (int p = 0; p < n; p++) {
        piece(x, 2, 'a' + p);
        uses[p] = 1 + random.nextInt(1 + random.nextInt(12));
        for (int i = 0; i < uses[p]; i++) {
          signs[length++] = 'a' + p;
        }
      }
      uses[n] = 1;
      signs = java.util.Arrays.copyOf(signs, length);
      is("text()", text(x, signs), 0);
      is("run " + run + ": bits", x.tree(2000), leastBits(uses, n + 1));
      x.table(2000);
      is("print", x.print(x.laid(0, 0), 100000), length);
      out(x, "run " + run, signs);
    }
  }

  // ---- strings

  private static void kindsOfStrings() {
    GlulxStrings x = new GlulxStrings();
    int[] kinds = {224, 226, 225};
    int[] places = {11, 14, 11};
    for (int i = 0; i < 3; i++) {
      put(x, 10, b(kinds[i]));
      is("print(10, 0) of " + kinds[i], x.print(10, 0), HELD);
      is("its job", x.job(0, 0), i + 1);
      is("its PLACE", x.job(0, 1), places[i]);
      x.stop();
    }
  }

  private static void treeAnywhere() {
    for (int at : b(1, 2, 777, 4096 - 15)) {
      GlulxStrings x = toOut();
      put(x, at, head(15, at + 12), b(3, 'q', 0));
      is("table(" + at + ")", x.table(at), 0);
      is("told(10)", x.told(10), at);
      put(x, 2000, b(225));
      is("print(2000, 3)", x.print(2000, 3), HELD);
      out(x, "the tree at " + at, 'q');
    }
  }

  private static void branchLeads() {
    GlulxStrings x = withTree(branch(2000, 3000));
    put(x, 2000, b(1));
    put(x, 3000, b(1));
    put(x, STRING, b(225, 0b10));
    is("a bit 0", x.print(STRING, 1), HELD);
    is("job(0, 4)", x.job(0, 4), 2000);
    x.stop();
    put(x, STRING, b(225, 0b01));
    is("a bit 1", x.print(STRING, 1), HELD);
    is("job(0, 4)", x.job(0, 4), 3000);
  }

  private static void endEnds() {
    GlulxStrings x = withTree(comb(ROOT, END, b(2, 'a')));
    put(x, STRING, packed("1011"));
    is("print", x.print(STRING, 4), 1);
    out(x, "bits behind END", 'a');
  }

  private static void fromTheRoot() {
    // The ROOT is told by the tree's third FOUR, wherever it lies in the tree.
    GlulxStrings x = toOut();
    put(x, TREE, head(12 + 12, TREE + 15), b(1, 2, 'z'), branch(TREE + 12, TREE + 13));
    x.table(TREE);
    put(x, STRING, packed("1101"));
    is("print", x.print(STRING, 5), HELD);
    is("job(0, 4), behind three bits", x.job(0, 4), TREE + 12);
    is("resume(1)", x.resume(1), 0);
    out(x, "from the ROOT", 'z', 'z');
  }

  // ---- functions

  private static void codeBehindLocals() {
    for (int kind = 192; kind <= 193; kind++) {
      for (int n = 0; n <= 8; n++) {
        GlulxStrings x = toOut();
        put(x, CODE, b(kind, n), order(0, b(1, 60 + n)));
        is("call(CODE, 0)", x.call(CODE, 0), HELD);
        is("job(0, 1)", x.job(0, 1), CODE + 2);
        is("job(0, 3)", x.job(0, 3), n);
        is("resume(1)", x.resume(1), 0);
        is("told(6)", x.told(6), 60 + n);
      }
    }
  }

  /** By call(), by ORDER 6, by a node, and by a filter: each time a function of either kind. */
  private static void calledByAll() {
    int[][] want = {{1, 'x', 0}, {'x', 0, 0}};
    for (int i = 0; i < 2; i++) {
      int[] seen = function(192 + i, 3, order(7, b(0), NOWHERE));
      GlulxStrings x = withLeaf(node(10, 2000, 1, 'x'));
      put(x, 2000, seen);
      put(x, CODE, function(193, 0, order(6, value(2000), b(1, 1, 'x'), NOWHERE)));
      x.sign('x');
      is("call()", x.call(2000, 0), HELD);
      calledWith(x, 0, want[i]);
      is("ORDER 6", x.call(CODE, 1), HELD);
      calledWith(x, 1, want[i]);
      is("a node", x.print(STRING, 2), HELD);
      calledWith(x, 1, want[i]);
      x.system(1, 2000);
      put(x, STRING, b(224, 'x'));
      is("a filter", x.print(STRING, 1), HELD);
      calledWith(x, 1, want[i]);
    }
  }

  private static void calledWith(GlulxStrings x, int job, int... locals) {
    is("jobs()", x.jobs(), job + 1);
    is("kind", x.job(job, 0), 0);
    for (int i = 0; i < locals.length; i++) {
      is("LOCAL " + i, x.job(job, 10 + i), locals[i]);
    }
    x.stop();
  }

  private static void orderByOrder() {
    int[][] orders = {
      order(8, b(1, 40), value(2), to(0)), order(9, local(0), b(0), to(1)), order(16, to(2)),
      order(7, b(1, 200), to(3)), order(12, local(3), local(0), by(0)), order(14, b(0), to(4)),
    };
    GlulxStrings x = withCode(5, join(orders), order(0, local(1)));
    x.call(CODE, 0);
    int place = CODE + 2;
    for (int[] order : orders) {
      is("PLACE ahead of ORDER " + order[0], x.job(0, 1), place);
      is("resume(1)", x.resume(1), HELD);
      place += order.length;
    }
    is("PLACE ahead of ORDER 0", x.job(0, 1), place);
    int[] locals = {42, 42, 0, -56, 0};
    for (int i = 0; i < locals.length; i++) {
      is("LOCAL " + i, x.job(0, 10 + i), locals[i]);
    }
    is("resume(1)", x.resume(1), 0);
    is("told(6)", x.told(6), 42);
  }

  // ---- jobs

  private static void orderIsStep() {
    for (int n = 0; n < 5; n++) {
      GlulxStrings x = withCode(0, order(1, b(1, 'a')), order(1, b(1, 'b')), order(1, b(1, 'c')), order(0, b(0)));
      is("call(CODE, " + n + ")", x.call(CODE, n), n < 4 ? HELD : 3);
      is("told(0)", x.told(0), n);
      is("told(1)", x.told(1), Math.min(n, 3));
    }
  }

  private static void stepsOfPacked() {
    for (int end = 1; end < 4; end++) {
      GlulxStrings x = withTree(comb(ROOT, END, b(2, 'a'), b(2, 'b'), b(2, 'c')));
      String bits = toEnd(end, 4);
      put(x, STRING, packed(bits + "0"));
      is("the bits alone", x.print(STRING, bits.length()), HELD);
      out(x, "the bits alone");
      is("the end", x.resume(1), HELD);
      out(x, "the end", 'a' + end - 1);
      is("at the ROOT", x.job(0, 4), NONE);
      is("one BRANCH and END", x.resume(2), 0);
      is("told(0)", x.told(0), bits.length() + 3);
    }
  }

  private static void whatNodesBegin() {
    int[] kinds = {-1, -1, 1, -1, 2, 1, 2, 0, 0, 3, 2};
    for (int end = 1; end < ENDS.length; end++) {
      GlulxStrings x = withAllEnds();
      put(x, STRING, packed(toEnd(end, ENDS.length) + "0"));
      is("node " + ENDS[end][0], x.print(STRING, toEnd(end, ENDS.length).length() + 1), HELD);
      is("SIGNS at once", x.told(1), kinds[end] == -1 ? 1 : 0);
      is("jobs()", x.jobs(), kinds[end] == -1 ? 1 : 2);
      is("the string lies below", x.job(0, 0), 3);
      is("what it began", x.job(1, 0), Math.max(kinds[end], 0));
      is("resume", x.resume(1000) >= 0 ? 1 : 0, 1);
    }
  }

  private static void endOfInner() {
    GlulxStrings x = withAllEnds();
    put(x, STRING, packed(toEnd(9, ENDS.length) + toEnd(3, ENDS.length) + "0"));
    is("up to the inner one's END", x.print(STRING, 11 + 3 + 2), HELD);
    is("the outer one alone", x.jobs(), 1);
    is("goes on", x.resume(1000), 1);
    out(x, "outer, inner", 'a', 'd');
  }

  private static void systemWithinString() {
    // A function between the SIGNS of a string changes where the others go.
    GlulxStrings x = withTree(comb(ROOT, END, b(2, 'a'), node(8, CODE), node(8, CODE + 50)));
    put(x, CODE, function(193, 0, order(4, b(0), b(1, 9)), order(0, b(0))));
    put(x, CODE + 50, function(193, 0, order(4, b(1, 2), b(0)), order(0, b(0))));
    put(x, STRING, packed("10" + "110" + "10" + "10" + "111" + "10" + "0"));
    is("print", x.print(STRING, 1000), 2);
    is("told(1)", x.told(1), 2);
    is("told(3)", x.told(3), 2);
    is("told(8)", x.told(8), 2);
  }

  private static void filterResult() {
    // The RESULT of the filter goes to no LOCAL of the function that gave the SIGN.
    GlulxStrings x = withCode(8, order(1, b(1, 'a')), OVER);
    put(x, 2000, function(193, 0, order(0, b(1, 99))));
    x.system(1, 2000);
    is("call, the filter, its end", x.call(CODE, 2), HELD);
    is("jobs()", x.jobs(), 1);
    for (int i = 0; i < 8; i++) {
      is("LOCAL " + i, x.job(0, 10 + i), 0);
    }
    is("told(6)", x.told(6), 99);
  }

  private static void anewBehindFault() {
    GlulxStrings x = withLeaf(6);
    is("a FAULT within a string", x.print(STRING, 100), fault(3));
    is("job(0, 1)", x.job(0, 1), 0);
    put(x, LEAF, b(2, 'n'));
    is("print anew", x.print(STRING, 100), 1);
    out(x, "anew", 'n');
  }

  private static void leftToRight() {
    // A wrong part of an ORDER, and another one behind it, or what the ORDER would do.
    faults("8: no VALUE ahead of no LOCAL's byte", 6, 0, order(8, b(4, 3, 0), to(0)));
    faults("13 to no LOCAL, outside", 6, 2, order(13, value(-1), to(2)));
    faults("13 to a LOCAL, outside", 1, 3, order(13, value(-1), to(2)));
    faults("14 to no LOCAL, outside", 6, 2, order(14, value(4093), to(2)));
    faults("15 of no VALUE, below 0", 6, 0, order(15, value(-1), b(4)));
    faults("6 to no LOCAL, of no FUNCTION", 6, 0, order(6, value(-1), b(0), to(0)));
    faults("6 of no VALUE behind a VALUE, of no FUNCTION", 6, 0, order(6, value(0), b(2, 0, 4), NOWHERE));
    faults("2 of no VALUE", 6, 0, order(2, b(255)));
    GlulxStrings x = toOut();
    put(x, 4091, b(193, 0, 13, 1, 5));
    is("13 without its t, of a good address", x.call(4091, 1), fault(1));
    // A THING that is no FUNCTION, then its number of LOCALS.
    put(x, 4095, b(193));
    is("a FUNCTION without a byte n", x.call(4095, 0), fault(1));
    put(x, 4095, b(191));
    is("no FUNCTION, without a byte n", x.call(4095, 0), fault(4));
  }

  // ---- promises

  private static void lowestFirst() {
    GlulxStrings x = withCode(0, order(2, value(STRING)));
    put(x, STRING, b(224, 'a'));
    is("call, ORDER 2", x.call(CODE, 1), HELD);
    is("kind of 0", x.job(0, 0), 0);
    is("PLACE of 0", x.job(0, 1), CODE + 8);
    is("kind of 1", x.job(1, 0), 1);
    is("PLACE of 1", x.job(1, 1), STRING + 1);
    is("kind of 2", x.job(2, 0), 0);
    is("PLACE of 2", x.job(2, 1), 0);
  }

  private static void soFar() {
    GlulxStrings x = toOut();
    is("number(12, 9)", x.number(12, 9), 2);
    is("clear()", x.clear(), 2);
    is("number(345, 9)", x.number(345, 9), 3);
    is("told(0)", x.told(0), 7);
    is("told(1)", x.told(1), 5);
    is("told(12)", x.told(12), 3);
  }

  private static void pieceNumbers() {
    GlulxStrings x = new GlulxStrings();
    int[] kinds = {9, 2, 8, 4, 3, 5};
    for (int i = 0; i < 60; i++) {
      int kind = kinds[i % 6];
      is("piece(" + kind + ")", kind == 3 || kind == 5 ? piece(x, kind, 1, 2) : piece(x, kind, 1), i);
      is("told(16)", x.told(16), i + 1);
    }
    is("forget()", x.forget(), 60);
    is("from 0 on again", piece(x, 2, 1), 0);
  }

  private static void textNumbers() {
    GlulxStrings x = new GlulxStrings();
    piece(x, 2, 'a');
    for (int i = 0; i < 20; i++) {
      is("text()", text(x, row(i % 3, 'a')), i);
      is("told(17)", x.told(17), i + 1);
    }
    x.forget();
    is("from 0 on again", text(x), 0);
  }

  private static void laidOneByOne() {
    GlulxStrings x = new GlulxStrings();
    piece(x, 2, 'a');
    text(x, row(10, 'a'));
    text(x);
    text(x, row(3, 'a'));
    // END: 3 uses, 'a': 13 uses, so each of them is one bit.
    is("tree(50)", x.tree(50), 13 + 3);
    int at = 50 + 12 + 9 + 1 + 2;
    int[] places = {at, at + 3, at + 5};
    int[] lengths = {10, 0, 3};
    for (int k = 0; k < 3; k++) {
      is("laid(" + k + ", 0)", x.laid(k, 0), places[k]);
      is("laid(" + k + ", 1)", x.laid(k, 1), lengths[k] + 1);
      is("laid(" + k + ", 2)", x.laid(k, 2), lengths[k]);
      is("its kind", x.byteAt(places[k]), 225);
    }
    bytes(x, "the first text", at, b(225, 255, 3));
  }

  // ---- not promised

  /** What they answer is free, but LANGUAGE.md has no call fail to end. */
  private static void laterCallsEnd() {
    GlulxStrings x = withAllEnds();
    int rounds = 0;
    for (int i = 0; i < 2000; i++) {
      x.print(STRING, 1000);
      x.sign(i);
      x.feed(8, i);
      x.piece(2);
      x.text();
      x.tree(3000);
      rounds++;
    }
    is("rounds of calls", rounds, 2000);
  }
}
