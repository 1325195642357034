/** The edges of the document's part 2 STRINGS, and of promise 8. */
public final class EdgesOfStringsTest extends Edges {
  public static void main(String[] args) {
    begin("EdgesOfStringsTest");
    strings();
    trees();
    nodes();
    things();
    print();
    end();
  }

  private static void strings() {
    holds("224: PLAIN: bytes, each a SIGN 1 .. 255, up to a byte 0.", EdgesOfStringsTest::plain);
    holds("up to a byte 0.", EdgesOfStringsTest::plainEmpty);
    holds("226: WIDE: three bytes that do not count", EdgesOfStringsTest::wideBytesDoNotCount);
    holds("then FOURs, each a SIGN, up to a FOUR 0.", EdgesOfStringsTest::wide);
    holds("up to a FOUR 0.", EdgesOfStringsTest::wideEmpty);
    holds("225: PACKED: bits, of each byte the lowest first.", EdgesOfStringsTest::lowestBitFirst);
  }

  private static void trees() {
    holds("0: there is none: each STEP of a PACKED string is FAULT 2", EdgesOfStringsTest::noTree);
    holds("(0: there is none", EdgesOfStringsTest::treeIsGoneWithinString);
    holds("FOUR how many bytes it has, FOUR that does not count", EdgesOfStringsTest::headDoesNotMatter);
    holds("FOUR the ROOT's address.", EdgesOfStringsTest::rootOutside);
    holds("of both that alone is read that the bit asks for", EdgesOfStringsTest::branchAtTheEnd);
    holds("behind the bit", EdgesOfStringsTest::bitsOutside);
    holds("behind another node than END it begins at the ROOT again.", EdgesOfStringsTest::rootAgain);
    holds("At END the string is over.", EdgesOfStringsTest::endAsRoot);
  }

  private static void nodes() {
    holds("A NODE begins with a byte, its kind", EdgesOfStringsTest::nodeOutside);
    holds("2 a byte, a SIGN.", EdgesOfStringsTest::byteNode);
    holds("3 bytes, up to a byte 0: SIGNS.", EdgesOfStringsTest::bytesNode);
    holds("4 FOUR: a SIGN.", EdgesOfStringsTest::fourNode);
    holds("5 FOURs, up to a FOUR 0: SIGNS.", EdgesOfStringsTest::foursNode);
    holds("8 FOUR, the address of a THING.", EdgesOfStringsTest::thingNode);
    holds("9 FOUR, where the address of a THING is (FOUR).", EdgesOfStringsTest::thingAtNode);
    holds("10, 11: likewise, and behind it FOUR how many ARGUMENTS", EdgesOfStringsTest::othersHaveNoArguments);
    holds("10, 11: likewise", EdgesOfStringsTest::callNodesLikewise);
    holds("FOUR how many ARGUMENTS (0 .. 4; else FAULT 5)", EdgesOfStringsTest::numberOfArguments);
    holds("these (FOURs).", EdgesOfStringsTest::argumentsOutside);
    holds("Other kinds are FAULT 3.", EdgesOfStringsTest::otherKinds);
  }

  private static void things() {
    holds("A THING is a string or a FUNCTION, told by its byte: 224, 225, 226; 192, 193; else FAULT 4.",
        EdgesOfStringsTest::otherThings);
  }

  private static void print() {
    holds("The string at an address is printed", EdgesOfStringsTest::printsEachKind);
    holds("(its kind, and that it is one, is looked at first: FAULT 1, 4, without a STEP, also with 0 steps)",
        EdgesOfStringsTest::lookedAtFirst);
    holds("also with 0 steps", EdgesOfStringsTest::lookedAtAlone);
    holds("BAD, NO.", EdgesOfStringsTest::printBadNo);
  }

  // ---- strings

  private static void plain() {
    GlulxStrings x = toOut();
    int[] all = new int[255];
    for (int i = 0; i < 255; i++) {
      all[i] = i + 1;
    }
    put(x, STRING, b(224), all, b(0, 66));
    is("print", x.print(STRING, 256), 255);
    for (int i = 0; i < 255; i++) {
      is("at(" + i + ")", x.at(i), i + 1);
    }
    is("at(255)", x.at(255), NONE);
    put(x, 4094, b(224, 65));
    is("print without a byte 0", x.print(4094, 9), fault(1));
    is("at(255)", x.at(255), 65);
  }

  private static void plainEmpty() {
    GlulxStrings x = toOut();
    put(x, STRING, b(224, 0, 65));
    is("print of an empty one, 0 STEPS", x.print(STRING, 0), HELD);
    is("resume(1)", x.resume(1), 0);
    is("told(0)", x.told(0), 1);
    out(x, "an empty one");
    put(x, 4094, b(224, 0));
    is("an empty one at the end of MEMORY", x.print(4094, 1), 0);
    put(x, 4095, b(224));
    is("a kind alone at the end of MEMORY", x.print(4095, 1), fault(1));
  }

  private static void wideBytesDoNotCount() {
    for (int c : new int[] {0, 1, 255}) {
      GlulxStrings x = toOut();
      put(x, STRING, b(226, c, c, c), four(65, 0));
      is("print", x.print(STRING, 9), 1);
      out(x, "three bytes of " + c, 65);
    }
    for (int at = 4092; at < 4096; at++) {
      GlulxStrings x = toOut();
      put(x, at, b(226));
      is("print(" + at + ", 0)", x.print(at, 0), HELD);
      is("job(0, 1)", x.job(0, 1), at + 4);
      is("resume(1)", x.resume(1), fault(1));
    }
  }

  private static void wide() {
    GlulxStrings x = toOut();
    put(x, STRING, b(226, 0, 0, 0), four(1, 256, 65536, 0x01000000, -1, MIN, MAX, 0, 66));
    is("print", x.print(STRING, 8), 7);
    out(x, "a WIDE string", 1, 256, 65536, 0x01000000, -1, MIN, MAX);
    // The last FOUR lacks bytes.
    for (int lacks = 1; lacks <= 3; lacks++) {
      x = toOut();
      put(x, 4084 + lacks, b(226, 0, 0, 0), four(7), row(4 - lacks, 0));
      is("print with " + lacks + " bytes too few", x.print(4084 + lacks, 9), fault(1));
      out(x, "print with " + lacks + " bytes too few", 7);
    }
    x = toOut();
    put(x, 4084, b(226, 0, 0, 0), four(7, 0));
    is("print up to the end of MEMORY", x.print(4084, 9), 1);
  }

  private static void wideEmpty() {
    GlulxStrings x = toOut();
    put(x, STRING, b(226, 1, 1, 1), four(0, 65));
    is("print of an empty one", x.print(STRING, 1), 0);
    is("told(0)", x.told(0), 1);
    out(x, "an empty one");
  }

  /** Both bits lead to a SIGN, so that each bit can be seen. */
  private static void lowestBitFirst() {
    GlulxStrings x = withTree(branch(121, 123), b(2, 48, 2, 49));
    put(x, STRING, b(225, 0b10010110, 0b00000001));
    is("print", x.print(STRING, 34), HELD);
    out(x, "bits", 48, 49, 49, 48, 49, 48, 48, 49, 49, 48, 48, 48, 48, 48, 48, 48, 48);
    is("job(0, 1)", x.job(0, 1), STRING + 3);
    is("job(0, 2)", x.job(0, 2), 1);
  }

  // ---- the tree

  private static void noTree() {
    GlulxStrings x = toOut();
    put(x, STRING, b(225, 0));
    is("print, 0 STEPS", x.print(STRING, 0), HELD);
    is("resume(1)", x.resume(1), fault(2));
    is("print", x.print(STRING, 9), fault(2));
    is("told(0)", x.told(0), 2);
    // At 0 there lies what would be a tree.
    put(x, 0, head(13, 12), END);
    x.table(0);
    is("print by a tree at 0", x.print(STRING, 9), fault(2));
    put(x, STRING, b(224, 65, 0));
    is("print of a PLAIN string", x.print(STRING, 9), 1);
    put(x, STRING, b(226, 0, 0, 0), four(66, 0));
    is("print of a WIDE string", x.print(STRING, 9), 1);
    x.table(1);
    is("table(0)", x.table(0), 0);
    put(x, STRING, b(225, 0));
    is("print when the TREE is gone", x.print(STRING, 9), fault(2));
  }

  /** The node is a function that tells that there is no TREE; the string goes on behind it. */
  private static void treeIsGoneWithinString() {
    GlulxStrings x = withLeaf(node(8, CODE));
    put(x, CODE, function(193, 0, order(5, value(0)), order(0, b(0))));
    is("print up to the end of the function", x.print(STRING, 4), HELD);
    is("jobs()", x.jobs(), 1);
    is("resume(1)", x.resume(1), fault(2));
    is("told(10)", x.told(10), 0);
  }

  private static void headDoesNotMatter() {
    for (int size : new int[] {0, 1, 11, -1, MIN, MAX}) {
      GlulxStrings x = withLeaf(2, 88);
      put(x, TREE, four(size, size));
      x.border(4096);
      x.table(TREE);
      is("print by a TREE of " + size, x.print(STRING, 9), 1);
      out(x, "print by a TREE of " + size, 88);
    }
  }

  private static void rootOutside() {
    for (int root : new int[] {-1, 4096, MIN, MAX}) {
      GlulxStrings x = withLeaf(2, 88);
      put(x, TREE + 8, four(root));
      is("print by a ROOT at " + root, x.print(STRING, 9), fault(1));
    }
    GlulxStrings x = withTree(END);
    put(x, STRING, b(225));
    put(x, 4092, four(ROOT));
    x.table(4084);
    is("print by a TREE at 4084", x.print(STRING, 9), 0);
    for (int at : new int[] {4085, 4086, 4087, 4088, 4096, -9, -4096, MIN, MAX}) {
      x.table(at);
      is("print by a TREE at " + at, x.print(STRING, 9), fault(1));
    }
  }

  private static void branchAtTheEnd() {
    GlulxStrings x = withTree(END, b(2, 88));
    put(x, TREE + 8, four(4091));
    put(x, 4091, b(0), four(ROOT));
    put(x, STRING, b(225, 0));
    is("bit 0 with but one FOUR", x.print(STRING, 9), 0);
    put(x, STRING, b(225, 1));
    is("bit 1 with but one FOUR", x.print(STRING, 9), fault(1));
    put(x, TREE + 8, four(4092));
    put(x, 4092, b(0, 0, 0, 0));
    put(x, STRING, b(225, 0));
    is("bit 0 with less than a FOUR", x.print(STRING, 9), fault(1));
    put(x, TREE + 8, four(4087));
    put(x, 4087, branch(-1, ROOT));
    put(x, STRING, b(225, 1));
    is("bit 1, and bit 0 leads outside", x.print(STRING, 9), 0);
    put(x, STRING, b(225, 0));
    is("bit 0 leads outside, a STEP", x.print(STRING, 1), HELD);
    is("resume(1)", x.resume(1), fault(1));
  }

  private static void bitsOutside() {
    GlulxStrings x = withLeaf(2, 88);
    put(x, 4094, b(225, 255));
    is("print of eight bits", x.print(4094, 16), HELD);
    is("told(12)", x.told(12), 8);
    is("job(0, 1)", x.job(0, 1), 4096);
    is("resume(1)", x.resume(1), fault(1));
    put(x, 4095, b(225));
    is("print of no bit", x.print(4095, 1), fault(1));
    put(x, 4094, b(225, 127));
    is("print with END by the last bit", x.print(4094, 99), 7);
  }

  private static void rootAgain() {
    GlulxStrings x = withTree(b(2, 88));
    put(x, 4095, b(225));
    is("a SIGN as the ROOT, 20 STEPS", x.print(4095, 20), HELD);
    is("told(12)", x.told(12), 20);
    is("job(0, 1)", x.job(0, 1), 4096);
    is("job(0, 2)", x.job(0, 2), 0);
    is("job(0, 4)", x.job(0, 4), NONE);
    x.stop();
    x = withTree(b(3, 0));
    put(x, 4095, b(225));
    is("an empty row as the ROOT, 20 STEPS", x.print(4095, 20), HELD);
    is("jobs()", x.jobs(), 1);
    is("told(12)", x.told(12), 0);
  }

  private static void endAsRoot() {
    GlulxStrings x = withTree(END);
    put(x, 4095, b(225));
    is("END as the ROOT", x.print(4095, 1), 0);
    is("told(0)", x.told(0), 1);
    x = withLeaf(2, 88);
    put(x, STRING, b(225, 0b11111101));
    is("bits behind END", x.print(STRING, 4), 1);
    is("told(0)", x.told(0), 4);
  }

  // ---- nodes

  private static void nodeOutside() {
    for (int at : new int[] {-1, 4096, MIN, MAX}) {
      GlulxStrings x = withTree(branch(121, at), END);
      put(x, STRING, b(225, 1));
      is("a node at " + at + ", a STEP", x.print(STRING, 1), HELD);
      is("job(0, 4)", x.job(0, 4), at);
      is("resume(1)", x.resume(1), fault(1));
    }
    GlulxStrings x = withTree(branch(0, 4095), END);
    put(x, 0, END);
    put(x, 4095, END);
    put(x, STRING, b(225, 0));
    is("a node at 0", x.print(STRING, 9), 0);
    put(x, STRING, b(225, 1));
    is("a node at 4095", x.print(STRING, 9), 0);
  }

  /** The node lies at the end of MEMORY, whole, and then with a byte too few. */
  private static void atTheEnd(int lacks, int... node) {
    for (int less = 0; less <= lacks; less++) {
      GlulxStrings x = withTree(branch(121, 4096 - node.length + less), END);
      put(x, STRING, b(225, 1));
      put(x, 4096 - node.length + less, java.util.Arrays.copyOf(node, node.length - less));
      is("a node " + node[0] + " less " + less, x.print(STRING, 2), less == 0 ? HELD : fault(1));
      is("told(12)", x.told(12), less == 0 ? 1 : 0);
    }
  }

  private static void sign(int want, int... node) {
    GlulxStrings x = withLeaf(node);
    is("a node " + node[0] + " of " + want, x.print(STRING, 4), 1);
    out(x, "a node " + node[0] + " of " + want, want);
  }

  private static void byteNode() {
    sign(0, 2, 0);
    sign(1, 2, 1);
    sign(255, 2, 255);
    atTheEnd(1, 2, 65);
  }

  private static void bytesNode() {
    GlulxStrings x = withLeaf(3, 0, 65, 0);
    is("an empty row", x.print(STRING, 5), 0);
    is("told(0)", x.told(0), 5);
    x = withLeaf(3, 1, 255, 0, 65);
    is("a row of two", x.print(STRING, 7), 2);
    out(x, "a row of two", 1, 255);
    is("told(0)", x.told(0), 7);
    x = withTree(branch(121, 4094), END);
    put(x, STRING, b(225, 1));
    put(x, 4094, b(3, 65));
    is("a row without a byte 0", x.print(STRING, 3), HELD);
    is("resume(1)", x.resume(1), fault(1));
    out(x, "a row without a byte 0", 65);
    put(x, 4094, b(0, 3));
    put(x, 117, four(4095));
    is("a kind alone", x.print(STRING, 2), HELD);
    is("resume(1)", x.resume(1), fault(1));
  }

  private static void fourNode() {
    for (int c : new int[] {0, 1, -1, 256, MIN, MAX}) {
      sign(c, node(4, c));
    }
    atTheEnd(4, node(4, 65));
  }

  private static void foursNode() {
    GlulxStrings x = withLeaf(node(5, 0, 65, 0));
    is("an empty row", x.print(STRING, 5), 0);
    is("told(0)", x.told(0), 5);
    x = withLeaf(node(5, MIN, 256, -1, 0, 65));
    is("a row of three", x.print(STRING, 8), 3);
    out(x, "a row of three", MIN, 256, -1);
    is("told(0)", x.told(0), 8);
    x = withTree(branch(121, 4089), END);
    put(x, STRING, b(225, 1));
    put(x, 4088, b(0, 5), four(65), b(0, 0));
    is("a row without a FOUR 0", x.print(STRING, 3), HELD);
    is("resume(1)", x.resume(1), fault(1));
    out(x, "a row without a FOUR 0", 65);
  }

  private static void thingNode() {
    GlulxStrings x = withLeaf(node(8, 4095));
    put(x, 4095, b(224));
    is("a THING at 4095", x.print(STRING, 2), HELD);
    is("jobs()", x.jobs(), 2);
    for (int at : new int[] {-1, 4096, MIN, MAX}) {
      is("a THING at " + at, withLeaf(node(8, at)).print(STRING, 9), fault(1));
    }
    x = withLeaf(node(8, 0));
    put(x, 0, b(224, 65, 0));
    is("a THING at 0", x.print(STRING, 9), 1);
    thingAtTheEnd(8);
  }

  private static void thingAtNode() {
    for (int at : new int[] {-4, -1, 4093, 4095, 4096, MIN, MAX}) {
      is("its address at " + at, withLeaf(node(9, at)).print(STRING, 9), fault(1));
    }
    for (int at : new int[] {0, 4092}) {
      GlulxStrings x = withLeaf(node(9, at));
      put(x, at, four(600));
      put(x, 600, b(224, 65, 0));
      is("its address at " + at, x.print(STRING, 9), 1);
      for (int thing : new int[] {-1, 4096, MIN, MAX}) {
        put(x, at, four(thing));
        is("a THING at " + thing, x.print(STRING, 9), fault(1));
      }
    }
    thingAtTheEnd(9);
  }

  /** The address of a string, and where it is, is 771, so that some bytes less would be another one. */
  private static void thingAtTheEnd(int kind) {
    for (int less = 0; less <= 4; less++) {
      GlulxStrings x = withTree(branch(121, 4091 + less), END);
      put(x, STRING, b(225, 1));
      put(x, 771, kind == 8 ? b(224, 65, 0) : four(600));
      put(x, 600, b(224, 65, 0));
      put(x, 4091 + less, java.util.Arrays.copyOf(node(kind, 771), 5 - less));
      is("a node " + kind + " less " + less, x.print(STRING, 9), less == 0 ? 1 : fault(1));
    }
  }

  /** Behind nodes 8, 9 there lies what would be a wrong number of ARGUMENTS, and what would be a right one. */
  private static void othersHaveNoArguments() {
    for (int n : new int[] {5, -1, 2}) {
      for (int kind = 8; kind <= 9; kind++) {
        GlulxStrings x = withLeaf(node(kind, kind == 8 ? CODE : 600, n, 21, 22));
        put(x, 600, four(CODE));
        put(x, CODE, function(192, 4, OVER));
        // ARGUMENTS of an earlier call.
        line(x, 31, 32, 33);
        x.call(CODE, 9);
        is("a node " + kind, x.print(STRING, 2), HELD);
        for (int i = 0; i < 4; i++) {
          is("LOCAL " + i, x.job(1, 10 + i), 0);
        }
      }
    }
  }

  private static void callNodesLikewise() {
    for (int at : new int[] {-1, 4096, MIN, MAX}) {
      is("10: a THING at " + at, withLeaf(node(10, at, 0)).print(STRING, 9), fault(1));
      is("11: its address at " + at, withLeaf(node(11, at, 0)).print(STRING, 9), fault(1));
      GlulxStrings x = withLeaf(node(11, 700, 0));
      put(x, 700, four(at));
      is("11: a THING at " + at, x.print(STRING, 9), fault(1));
    }
    is("11: its address at 4093", withLeaf(node(11, 4093, 0)).print(STRING, 9), fault(1));
    GlulxStrings x = withLeaf(node(10, 600, 1, 5));
    put(x, 600, b(224, 65, 0));
    is("10: a string", x.print(STRING, 9), 1);
    x = withLeaf(node(11, 4092, 1, 5));
    put(x, 4092, four(600));
    put(x, 600, b(224, 65, 0));
    is("11: a string", x.print(STRING, 9), 1);
  }

  private static void numberOfArguments() {
    for (int kind = 10; kind <= 11; kind++) {
      for (int n : new int[] {-1, 5, MIN, MAX}) {
        GlulxStrings x = withLeaf(node(kind, 600, n, 0, 0, 0, 0, 0));
        put(x, 600, four(600));
        is(kind + " of " + n, x.print(STRING, 9), fault(5));
      }
      for (int n = 0; n <= 4; n++) {
        GlulxStrings x = withLeaf(node(kind, kind == 10 ? CODE : 600, n, 21, 22, 23, 24));
        put(x, 600, four(CODE));
        put(x, CODE, function(192, 6, OVER));
        is(kind + " of " + n, x.print(STRING, 2), HELD);
        is("LOCAL 0", x.job(1, 10), n);
        for (int i = 1; i <= 5; i++) {
          is("LOCAL " + i, x.job(1, 10 + i), i <= n ? 20 + i : 0);
        }
      }
    }
  }

  private static void argumentsOutside() {
    for (int n = 0; n <= 4; n++) {
      for (int less = 0; less <= 1; less++) {
        int at = 4096 - 9 - 4 * n + less;
        GlulxStrings x = withTree(branch(121, at), END);
        put(x, STRING, b(225, 1));
        put(x, CODE, function(193, 0, OVER));
        int[] node = join(node(10, CODE, n), row(4 * n, 0));
        put(x, at, java.util.Arrays.copyOf(node, node.length - less));
        is("a node 10 of " + n + " less " + less, x.print(STRING, 2), less == 0 ? HELD : fault(1));
      }
    }
    GlulxStrings x = withLeaf(node(10, CODE, 2, MIN, -1));
    put(x, CODE, function(193, 2, OVER));
    x.print(STRING, 2);
    is("LOCAL 0", x.job(1, 10), MIN);
    is("LOCAL 1", x.job(1, 11), -1);
  }

  private static void otherKinds() {
    for (int kind = 0; kind < 256; kind++) {
      boolean told = kind <= 5 || kind >= 8 && kind <= 11;
      if (!told) {
        is("a node " + kind, withLeaf(kind, 0, 0, 0, 0).print(STRING, 2), fault(3));
      }
    }
    GlulxStrings x = withTree(b(6));
    put(x, STRING, b(225));
    is("6 as the ROOT", x.print(STRING, 1), fault(3));
    put(x, 4095, b(12));
    put(x, TREE + 8, four(4095));
    is("12 as the ROOT, at the end of MEMORY", x.print(STRING, 1), fault(3));
  }

  private static void otherThings() {
    for (int kind = 0; kind < 256; kind++) {
      boolean told = kind >= 224 && kind <= 226 || kind == 192 || kind == 193;
      GlulxStrings x = withLeaf(node(8, 600));
      put(x, 600, b(kind, 0, 0, 0));
      is("a THING " + kind, x.print(STRING, 2), told ? HELD : fault(4));
      if (told) {
        is("job(1, 0)", x.job(1, 0), kind == 224 ? 1 : kind == 225 ? 3 : kind == 226 ? 2 : 0);
      }
    }
  }

  // ---- promise 8

  private static void printsEachKind() {
    for (int kind = 224; kind <= 226; kind++) {
      GlulxStrings x = toOut();
      put(x, 0, b(kind));
      is("print(0, 0) of " + kind, x.print(0, 0), HELD);
      is("job(0, 0)", x.job(0, 0), kind == 224 ? 1 : kind == 225 ? 3 : 2);
      is("job(0, 1)", x.job(0, 1), kind == 226 ? 4 : 1);
      is("jobs()", x.jobs(), 1);
    }
  }

  private static void lookedAtFirst() {
    for (int at : new int[] {-1, 4096, MIN, MAX}) {
      GlulxStrings x = toOut();
      is("print(" + at + ", 5)", x.print(at, 5), fault(1));
      is("told(0)", x.told(0), 0);
      is("told(4)", x.told(4), 1);
      is("told(5)", x.told(5), 1);
      is("jobs()", x.jobs(), 0);
      is("told(7)", x.told(7), 0);
    }
    for (int kind = 0; kind < 256; kind++) {
      if (kind < 224 || kind > 226) {
        GlulxStrings x = toOut();
        put(x, 600, b(kind, 0));
        is("print of " + kind, x.print(600, 5), fault(4));
        is("told(0)", x.told(0), 0);
        is("told(4)", x.told(4), 1);
        is("told(5)", x.told(5), 4);
        is("jobs()", x.jobs(), 0);
      }
    }
  }

  private static void lookedAtAlone() {
    GlulxStrings x = toOut();
    is("print(-1, 0)", x.print(-1, 0), fault(1));
    is("print(4096, 0)", x.print(4096, 0), fault(1));
    is("print(0, 0)", x.print(0, 0), fault(4));
    put(x, 0, b(193));
    is("print(0, 0) of a FUNCTION", x.print(0, 0), fault(4));
    is("told(0)", x.told(0), 0);
    is("told(4)", x.told(4), 4);
  }

  private static void printBadNo() {
    GlulxStrings x = toOut();
    put(x, STRING, b(224, 65, 66, 0));
    for (int steps : new int[] {-1, 100001, MIN, MAX}) {
      is("print(STRING, " + steps + ")", x.print(STRING, steps), BAD);
      is("print(-1, " + steps + ")", x.print(-1, steps), BAD);
    }
    is("jobs()", x.jobs(), 0);
    is("print(STRING, 1)", x.print(STRING, 1), HELD);
    is("print(STRING, 9)", x.print(STRING, 9), NO);
    is("print(STRING, 0)", x.print(STRING, 0), NO);
    is("print(-1, 0)", x.print(-1, 0), NO);
    is("job(0, 1)", x.job(0, 1), STRING + 2);
    is("jobs()", x.jobs(), 1);
    is("told(4)", x.told(4), 0);
    is("resume(9)", x.resume(9), 1);
    is("print(STRING, 100000)", x.print(STRING, 100000), 2);
  }
}
