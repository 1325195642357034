/** The edges of the document's part 6 PACKING, and of the promises 18 to 24. */
public final class EdgesOfPackingTest extends Edges {
  public static void main(String[] args) {
    begin("EdgesOfPackingTest");
    pieces();
    parting();
    bestTree();
    laying();
    promises();
    end();
  }

  private static void pieces() {
    holds("PIECES (60), by numbers from 0 on", EdgesOfPackingTest::sixtyPieces);
    holds("kinds 2 (one SIGN 1 .. 255)", EdgesOfPackingTest::kindTwo);
    holds("3 (2 .. 20 such)", EdgesOfPackingTest::kindThree);
    holds("4 (one SIGN, not 0)", EdgesOfPackingTest::kindFour);
    holds("5 (2 .. 20 such)", EdgesOfPackingTest::kindFive);
    holds("8, 9 (an address)", EdgesOfPackingTest::kindsEightNine);
    holds("TEXTS (20) are rows of SIGNS.", EdgesOfPackingTest::twentyTexts);
  }

  private static void parting() {
    holds("A TEXT is parted into PIECES whose SIGNS are its, one behind the other", EdgesOfPackingTest::partedWhole);
    holds("a PIECE of kind 8, 9 counts as one of the SIGN -1000 less its number.", EdgesOfPackingTest::thingSigns);
    holds("Of all ways that with the fewest PIECES", EdgesOfPackingTest::fewest);
    holds("of these that whose first PIECE has the most SIGNS", EdgesOfPackingTest::firstLongest);
    holds("then the second, and so on", EdgesOfPackingTest::secondLongest);
    holds("of like PIECES (the same SIGNS) the least number.", EdgesOfPackingTest::leastNumber);
  }

  private static void bestTree() {
    holds("LEAVES are END, with as many uses as there are TEXTS", EdgesOfPackingTest::endAlone);
    holds("and the PIECES that are used, with their uses", EdgesOfPackingTest::usedPieces);
    holds("in this order (END, then by numbers).", EdgesOfPackingTest::byNumbers);
    holds("As long as there are two trees or more", EdgesOfPackingTest::twoTrees);
    holds("the two with the fewest uses", EdgesOfPackingTest::fewestUses);
    holds("of like ones those that stood first in the order", EdgesOfPackingTest::likeOnes);
    holds("what is made stands behind all that is there", EdgesOfPackingTest::madeStandsBehind);
    holds("are joined: the lesser one is for a bit 0.", EdgesOfPackingTest::lesserForZero);
  }

  private static void laying() {
    holds("It is laid from an address on: 12 bytes (how many bytes it has with these 12; how many nodes; the ROOT's address)",
        EdgesOfPackingTest::head);
    holds("then the nodes: the ROOT, then all behind its bit 0, then all behind its bit 1 (likewise within)",
        EdgesOfPackingTest::nodesInOrder);
    holds("each with no more bytes than it needs", EdgesOfPackingTest::noMoreBytes);
    holds("then the TEXTS by numbers, PACKED", EdgesOfPackingTest::textsByNumbers);
    holds("what is left of the last byte 0.", EdgesOfPackingTest::restIsZero);
  }

  private static void promises() {
    holds("A SIGN comes behind the LINE: how many it has. FULL.", EdgesOfPackingTest::sign);
    holds("The LINE, which is empty then in any case, becomes a PIECE of a kind", EdgesOfPackingTest::pieceEmptiesLine);
    holds("(8, 9: the LINE is its address alone)", EdgesOfPackingTest::addressAlone);
    holds("BAD: kind; the LINE is no such PIECE. FULL.", EdgesOfPackingTest::pieceBad);
    holds("The LINE, which is empty then in any case, becomes a TEXT", EdgesOfPackingTest::textEmptiesLine);
    holds("(also an empty one)", EdgesOfPackingTest::emptyText);
    holds("NO: it can't be parted into PIECES. FULL.", EdgesOfPackingTest::textNo);
    holds("(Later PIECES may change how it is parted.)", EdgesOfPackingTest::laterPieces);
    holds("THE BEST TREE and the TEXTS are laid from an address on", EdgesOfPackingTest::laidAtEdges);
    holds("(also below the BORDER; as if told by load())", EdgesOfPackingTest::laidBelowBorder);
    holds("how many bits all TEXTS have.", EdgesOfPackingTest::allBits);
    holds("BAD: address is below 0.", EdgesOfPackingTest::treeBad);
    holds("NO: there is no TEXT.", EdgesOfPackingTest::treeNo);
    holds("FULL: they would not lie in MEMORY.", EdgesOfPackingTest::treeFull);
    holds("0 where it was laid last (NONE: never), 1 its bits then (0)", EdgesOfPackingTest::laidLast);
    holds("2 how many PIECES it has now. BAD.", EdgesOfPackingTest::laidBad);
    holds("How many bits a PIECE (NONE: END) had when it was laid last; NONE: it was not.", EdgesOfPackingTest::bitsLast);
    holds("BAD: no such PIECE.", EdgesOfPackingTest::bitsBad);
    holds("PIECES and TEXTS are gone: how many PIECES there were.", EdgesOfPackingTest::forget);
    holds("(END's bits() stay.)", EdgesOfPackingTest::endStays);
  }

  /** Signs 1 and on, each a PIECE of its own. */
  private static GlulxStrings withSigns(int n) {
    GlulxStrings x = new GlulxStrings();
    for (int c = 1; c <= n; c++) {
      is("piece " + c, piece(x, 2, c), c - 1);
    }
    return x;
  }

  // ---- pieces

  private static void sixtyPieces() {
    GlulxStrings x = withSigns(60);
    is("piece 61", piece(x, 2, 61), FULL);
    is("told(16)", x.told(16), 60);
    is("the last one is there", text(x, 60), 0);
    is("the next one is not", text(x, 61), NO);
    is("bits(59)", x.bits(59), NONE);
    is("bits(60)", x.bits(60), BAD);
    is("forget()", x.forget(), 60);
    is("a piece anew", piece(x, 2, 61), 0);
  }

  private static void kind(int kind, int want, int... signs) {
    is("piece(" + kind + ") of " + java.util.Arrays.toString(signs), piece(new GlulxStrings(), kind, signs), want);
  }

  private static void kindTwo() {
    for (int c : new int[] {1, 2, 255}) {
      kind(2, 0, c);
    }
    for (int c : new int[] {0, 256, -1, MIN, MAX, -1000}) {
      kind(2, BAD, c);
    }
    kind(2, BAD);
    kind(2, BAD, 65, 66);
    kind(2, BAD, row(120, 65));
  }

  private static void kindThree() {
    for (int n : new int[] {2, 3, 19, 20}) {
      kind(3, 0, row(n, 255));
      kind(3, 0, row(n, 1));
    }
    for (int n : new int[] {0, 1, 21, 120}) {
      kind(3, BAD, row(n, 65));
    }
    for (int c : new int[] {0, 256, -1, MIN, MAX}) {
      kind(3, BAD, c, 65);
      kind(3, BAD, 65, c);
      kind(3, BAD, join(row(19, 65), b(c)));
    }
  }

  private static void kindFour() {
    for (int c : new int[] {1, -1, 255, 256, MIN, MAX, -1000}) {
      kind(4, 0, c);
    }
    kind(4, BAD, 0);
    kind(4, BAD);
    kind(4, BAD, 65, 66);
  }

  private static void kindFive() {
    for (int n : new int[] {2, 3, 19, 20}) {
      kind(5, 0, row(n, MIN));
      kind(5, 0, row(n, MAX));
    }
    for (int n : new int[] {0, 1, 21, 120}) {
      kind(5, BAD, row(n, 70000));
    }
    kind(5, BAD, 0, 70000);
    kind(5, BAD, 70000, 0);
    kind(5, BAD, join(row(19, 70000), b(0)));
  }

  private static void kindsEightNine() {
    for (int kind = 8; kind <= 9; kind++) {
      for (int at : new int[] {0, 1, -1, 4096, MIN, MAX}) {
        GlulxStrings x = new GlulxStrings();
        is("piece(" + kind + ") of " + at, piece(x, kind, at), 0);
        text(x, -1000);
        is("tree(100)", x.tree(100), 2);
        bytes(x, "piece(" + kind + ") of " + at, 122, b(kind), four(at));
      }
      kind(kind, BAD);
      kind(kind, BAD, 1, 2);
    }
  }

  private static void twentyTexts() {
    GlulxStrings x = withSigns(1);
    for (int k = 0; k < 20; k++) {
      is("text " + k, text(x, row(k, 1)), k);
    }
    is("text 20", text(x, 1), FULL);
    is("told(17)", x.told(17), 20);
    is("laid(19, 2)", x.laid(19, 2), 19);
    is("laid(20, 2)", x.laid(20, 2), BAD);
    x.forget();
    piece(x, 4, -7);
    is("a text of 120", text(x, row(120, -7)), 0);
    is("laid(0, 2)", x.laid(0, 2), 120);
  }

  // ---- parting

  private static void partedWhole() {
    GlulxStrings x = new GlulxStrings();
    piece(x, 3, 97, 98);
    is("ab", text(x, 97, 98), 0);
    is("abab", text(x, 97, 98, 97, 98), 1);
    is("a, half a PIECE", text(x, 97), NO);
    is("aba, half a PIECE more", text(x, 97, 98, 97), NO);
    is("bab, half a PIECE ahead", text(x, 98, 97, 98), NO);
    is("abxab", text(x, 97, 98, 120, 97, 98), NO);
    piece(x, 3, row(20, 99));
    is("20 and 20", text(x, row(40, 99)), 2);
    is("laid(2, 2)", x.laid(2, 2), 2);
    is("one less", text(x, row(39, 99)), NO);
    is("120", text(x, row(120, 99)), 3);
    is("laid(3, 2)", x.laid(3, 2), 6);
    // The longest PIECE at first leads to no way.
    x = new GlulxStrings();
    piece(x, 3, 97, 98);
    piece(x, 2, 97);
    piece(x, 3, 98, 99);
    is("abc as a bc", text(x, 97, 98, 99), 0);
    is("laid(0, 2)", x.laid(0, 2), 2);
  }

  private static void thingSigns() {
    GlulxStrings x = withSigns(58);
    is("piece 58", piece(x, 8, 600), 58);
    is("piece 59", piece(x, 9, 0), 59);
    is("-1057 is none", text(x, -1057), NO);
    is("-1058 is", text(x, -1058), 0);
    is("-1059 is", text(x, -1059), 1);
    is("-1060 is none", text(x, -1060), NO);
    is("its address is none", text(x, 600), NO);
    is("-1000 is none", text(x, -1000), NO);
    x = new GlulxStrings();
    piece(x, 8, 600);
    is("-1000", text(x, -1000, -1000), 0);
    is("laid(0, 2)", x.laid(0, 2), 2);
    // Within a row of kind 5, too: of all ways that with the fewest PIECES.
    piece(x, 5, -1000, -1000);
    is("laid(0, 2) by a row", x.laid(0, 2), 1);
  }

  /** Which PIECES are used, told by which have bits. */
  private static void used(GlulxStrings x, String what, int... pieces) {
    x.tree(1000);
    for (int p = 0; p < x.told(16); p++) {
      boolean want = false;
      for (int u : pieces) {
        want |= u == p;
      }
      is(what + ": PIECE " + p + " is used", x.bits(p) == NONE ? 0 : 1, want ? 1 : 0);
    }
  }

  private static void fewest() {
    GlulxStrings x = new GlulxStrings();
    piece(x, 3, 97, 98, 99);
    piece(x, 2, 100);
    piece(x, 2, 101);
    piece(x, 3, 97, 98);
    piece(x, 3, 99, 100, 101);
    // abc d e has the longest first one, but three PIECES.
    is("abcde", text(x, 97, 98, 99, 100, 101), 0);
    is("laid(0, 2)", x.laid(0, 2), 2);
    used(x, "ab cde", 3, 4);
  }

  private static void firstLongest() {
    GlulxStrings x = new GlulxStrings();
    piece(x, 2, 97);
    piece(x, 3, 98, 99);
    piece(x, 3, 97, 98);
    piece(x, 2, 99);
    is("abc", text(x, 97, 98, 99), 0);
    used(x, "ab c", 2, 3);
  }

  private static void secondLongest() {
    GlulxStrings x = new GlulxStrings();
    piece(x, 2, 97);
    piece(x, 2, 98);
    piece(x, 3, 99, 100);
    piece(x, 3, 98, 99);
    piece(x, 2, 100);
    is("abcd", text(x, 97, 98, 99, 100), 0);
    used(x, "a bc d", 0, 3, 4);
    // The third one, behind two that all ways have.
    x = new GlulxStrings();
    piece(x, 2, 120);
    piece(x, 2, 121);
    piece(x, 2, 97);
    piece(x, 3, 98, 99);
    piece(x, 3, 97, 98);
    piece(x, 2, 99);
    is("xyabc", text(x, 120, 121, 97, 98, 99), 0);
    is("laid(0, 2)", x.laid(0, 2), 4);
    used(x, "x y ab c", 0, 1, 4, 5);
  }

  private static void leastNumber() {
    GlulxStrings x = new GlulxStrings();
    piece(x, 4, 65);
    piece(x, 2, 65);
    piece(x, 3, 66, 67);
    piece(x, 5, 66, 67);
    piece(x, 2, 65);
    text(x, 65, 66, 67);
    used(x, "likes", 0, 2);
    // A PIECE of a THING, and one of the SIGN that it counts as.
    x = new GlulxStrings();
    piece(x, 4, -1001);
    piece(x, 8, 600);
    piece(x, 9, 600);
    piece(x, 4, -1002);
    text(x, -1001, -1002);
    used(x, "THINGS and their like", 0, 2);
  }

  // ---- the best tree

  private static void endAlone() {
    for (int n = 1; n <= 20; n++) {
      GlulxStrings x = new GlulxStrings();
      for (int k = 0; k < n; k++) {
        x.text();
      }
      is("tree of " + n + " empty TEXTS", x.tree(100), 0);
      bytes(x, "empty TEXTS", 100, four(13, 1, 112), END, row(n, 225), b(0));
      is("bits(NONE)", x.bits(NONE), 0);
    }
    // END's uses: three TEXTS, a twice, b twice: a and b are joined first.
    GlulxStrings x = withSigns(2);
    text(x, 1, 2);
    text(x, 1, 2);
    x.text();
    is("tree", x.tree(100), 3 * 1 + 4 * 2);
    is("bits(NONE)", x.bits(NONE), 1);
    is("bits(0)", x.bits(0), 2);
    is("bits(1)", x.bits(1), 2);
  }

  private static void usedPieces() {
    GlulxStrings x = withSigns(3);
    text(x, 2, 2);
    is("tree", x.tree(100), 3);
    is("bits of one that is not used", x.bits(0), NONE);
    is("bits of one that is used", x.bits(1), 1);
    is("bits of one that is not used", x.bits(2), NONE);
    is("nodes", x.byteAt(107), 3);
    // PIECES without any use leave END alone.
    x = withSigns(3);
    x.text();
    is("tree", x.tree(100), 0);
    is("nodes", x.byteAt(107), 1);
  }

  private static void twoTrees() {
    GlulxStrings x = withSigns(1);
    text(x, 1);
    is("tree of two LEAVES", x.tree(100), 2);
    bytes(x, "two LEAVES", 100, four(24, 3, 112), branch(121, 122), END, b(2, 1), b(225, 1), b(0));
    // All 61 LEAVES of one use each; the least way, a tree of 61 ends.
    x = withSigns(60);
    int[] all = new int[60];
    for (int i = 0; i < 60; i++) {
      all[i] = i + 1;
    }
    text(x, all);
    is("tree of 61 LEAVES", x.tree(100), 61 * 6 - 3);
    bytes(x, "61 LEAVES", 104, four(121, 112));
    is("bits(NONE)", x.bits(NONE), 6);
    int fives = 0;
    for (int p = 0; p < 60; p++) {
      fives += x.bits(p) == 5 ? 1 : 0;
    }
    is("how many have five bits", fives, 3);
  }

  /** The TEXT uses them the other way round; all have one use. */
  private static void byNumbers() {
    GlulxStrings x = withSigns(3);
    text(x, 3, 2, 1);
    is("tree(100)", x.tree(100), 8);
    // END 00, PIECES 0, 1, 2: 01, 10, 11.
    bytes(x, "by numbers", 112, branch(121, 133), branch(130, 131), END, b(2, 1), branch(142, 144), b(2, 2), b(2, 3),
        b(225, 0b00100111));
  }

  /** END 1, a 3, b 2, c 1: END and c (2), b and these (4), a and these. */
  private static void fewestUses() {
    GlulxStrings x = withSigns(3);
    text(x, 1, 1, 1, 2, 2, 3);
    is("tree(100)", x.tree(100), 3 + 2 * 2 + 3 + 3);
    is("bits(0)", x.bits(0), 1);
    is("bits(1)", x.bits(1), 2);
    is("bits(2)", x.bits(2), 3);
    is("bits(NONE)", x.bits(NONE), 3);
    bytes(x, "the tree", 112, branch(121, 123), b(2, 1), branch(132, 134), b(2, 2), branch(143, 144), END, b(2, 3));
  }

  private static void likeOnes() {
    // END 1, a 1, b 1: END and a are joined, as they stood first.
    GlulxStrings x = withSigns(2);
    text(x, 2, 1);
    x.tree(100);
    is("bits(NONE)", x.bits(NONE), 2);
    is("bits(0)", x.bits(0), 2);
    is("bits(1)", x.bits(1), 1);
    bytes(x, "END and a behind b", 112, branch(121, 123), b(2, 2), branch(132, 133), END, b(2, 1));
  }

  /** END 1, a 1, b 2, c 2: END and a make 2, that stands behind b and c; these are joined, then both. */
  private static void madeStandsBehind() {
    GlulxStrings x = withSigns(3);
    text(x, 1, 2, 2, 3, 3);
    is("tree", x.tree(100), 12);
    for (int p = NONE; p < 3; p++) {
      is("bits(" + p + ")", x.bits(p), 2);
    }
    bytes(x, "the tree", 112, branch(121, 133), branch(130, 131), END, b(2, 1), branch(142, 144), b(2, 2), b(2, 3));
  }

  private static void lesserForZero() {
    // END 1, a 2: END is the lesser one. Then END 2, a 1: a is.
    GlulxStrings x = withSigns(1);
    text(x, 1, 1);
    x.tree(100);
    bytes(x, "END is less", 112, branch(121, 122), END, b(2, 1));
    x = withSigns(1);
    text(x, 1);
    x.text();
    x.tree(100);
    bytes(x, "a is less", 112, branch(121, 123), b(2, 1), END);
    // Like ones: END stands first.
    x = withSigns(1);
    text(x, 1);
    x.tree(100);
    bytes(x, "like ones", 112, branch(121, 122), END, b(2, 1));
  }

  // ---- laying

  private static void head() {
    for (int at : new int[] {0, 1, 255, 256, 4000}) {
      GlulxStrings x = withSigns(1);
      text(x, 1);
      is("tree(" + at + ")", x.tree(at), 2);
      bytes(x, "tree(" + at + ")", at, four(24, 3, at + 12));
    }
  }

  /** END 1, a 8, b 4, c 2: what is left stands for a bit 0 three times. */
  private static void nodesInOrder() {
    GlulxStrings x = withSigns(3);
    text(x, 1, 1, 1, 1, 1, 1, 1, 1, 2, 2, 2, 2, 3, 3);
    is("tree(0)", x.tree(0), 8 + 4 * 2 + 2 * 3 + 3);
    bytes(x, "the tree", 0, four(12 + 27 + 7, 7, 12), branch(21, 44), branch(30, 42), branch(39, 40), END,
        b(2, 3), b(2, 2), b(2, 1));
    // END 000, c 001, b 01, a 1, from the lowest bit on.
    bytes(x, "the TEXT", 46, b(225, 0b11111111, 0b10101010, 0b00100100, 0b0));
    is("laid(0, 1)", x.laid(0, 1), 25);
    is("laid(0, 0)", x.laid(0, 0), 46);
  }

  private static void sizeOf(int want, int kind, int... signs) {
    GlulxStrings x = new GlulxStrings();
    piece(x, kind, signs);
    text(x, kind >= 8 ? b(-1000) : signs);
    put(x, 100, row(140, 255));
    is("tree", x.tree(100), 2);
    is("bytes of a tree with a node " + kind, x.byteAt(103), 12 + 9 + 1 + want);
    is("laid(0, 0)", x.laid(0, 0), 122 + want);
  }

  private static void noMoreBytes() {
    sizeOf(2, 2, 65);
    sizeOf(4, 3, 65, 66);
    sizeOf(22, 3, row(20, 65));
    sizeOf(5, 4, 65);
    sizeOf(13, 5, 65, 66);
    sizeOf(85, 5, row(20, -1));
    sizeOf(5, 8, 65);
    sizeOf(5, 9, 65);
    GlulxStrings x = new GlulxStrings();
    put(x, 100, row(60, 255));
    piece(x, 5, MIN, 1);
    text(x, MIN, 1);
    x.tree(100);
    bytes(x, "a node 5", 122, b(5), four(MIN, 1, 0), b(225, 1, 255));
    bytesOf(b(3, 254, 1, 0), 3, 254, 1);
    bytesOf(join(b(3), row(20, 77), b(0)), 3, row(20, 77));
    bytesOf(b(2, 254), 2, 254);
    bytesOf(node(4, 0x81929394), 4, 0x81929394);
    bytesOf(node(5, 0x81929394, 0x01020304, 0), 5, 0x81929394, 0x01020304);
    bytesOf(node(8, 0x81929394), 8, 0x81929394);
    bytesOf(node(9, 0x01020304), 9, 0x01020304);
  }

  /** The node of a PIECE that is used once, over bytes that are not 0. */
  private static void bytesOf(int[] node, int kind, int... signs) {
    GlulxStrings x = new GlulxStrings();
    put(x, 100, row(60, 255));
    piece(x, kind, signs);
    text(x, kind >= 8 ? b(-1000) : signs);
    is("tree(100)", x.tree(100), 2);
    bytes(x, "a node " + kind, 100, four(22 + node.length, 3, 112), branch(121, 122), END, node, b(225, 1, 255));
  }

  private static void textsByNumbers() {
    GlulxStrings x = withSigns(1);
    for (int k = 0; k < 20; k++) {
      text(x, row(k, 1));
    }
    is("tree(100)", x.tree(100), 20 + 190);
    int place = 124;
    for (int k = 0; k < 20; k++) {
      is("laid(" + k + ", 0)", x.laid(k, 0), place);
      is("laid(" + k + ", 1)", x.laid(k, 1), k + 1);
      is("its byte", x.byteAt(place), 225);
      place += 1 + (k + 8) / 8;
    }
    x = new GlulxStrings();
    put(x, 100, row(80, 255));
    fourTexts(x);
    // Likewise, when a tree of sixty PIECES was laid ahead of it.
    x = withSigns(60);
    int[] all = new int[60];
    for (int i = 0; i < 60; i++) {
      all[i] = i + 1;
    }
    text(x, all);
    is("tree of sixty", x.tree(1000), 61 * 6 - 3);
    x.forget();
    put(x, 100, row(80, 255));
    fourTexts(x);
  }

  /**
   * END 4, a 1, b 1, c 3: a and b are joined (2), these and c (5), END and these: END 0, a 100, b 101,
   * c 11.
   */
  private static void fourTexts(GlulxStrings x) {
    for (int c = 97; c <= 99; c++) {
      piece(x, 2, c);
    }
    text(x, 97, 98, 99);
    text(x);
    text(x, 99, 99);
    text(x);
    is("tree(100)", x.tree(100), 9 + 1 + 5 + 1);
    bytes(x, "four TEXTS", 100, four(46, 7, 112), branch(121, 122), END, branch(131, 144), branch(140, 142),
        b(2, 97), b(2, 98), b(2, 99), b(225, 0b11101001, 0), b(225, 0), b(225, 0b01111), b(225, 0), b(255));
    // END 3 and a 1: a 0, END 1.
    x.forget();
    piece(x, 2, 97);
    text(x, 97);
    text(x);
    text(x);
    is("tree(100)", x.tree(100), 2 + 1 + 1);
    bytes(x, "three TEXTS", 112, branch(121, 123), b(2, 97), END, b(225, 0b10), b(225, 1), b(225, 1));
  }

  /** So many times a bit 1, then a bit 0; the bytes were 255. */
  private static void restIsZero() {
    for (int n : new int[] {1, 6, 7, 8, 14, 15, 16, 119, 120}) {
      GlulxStrings x = withSigns(1);
      put(x, 100, row(60, 255));
      text(x, row(n, 1));
      is("tree(100)", x.tree(100), n + 1);
      int bytes = (n + 8) / 8;
      for (int i = 0; i < bytes; i++) {
        int ones = Math.max(0, Math.min(8, n - 8 * i));
        is("byte " + i + " of " + n + " bits 1", x.byteAt(125 + i), (1 << ones) - 1);
      }
      is("the byte behind it", x.byteAt(125 + bytes), 255);
    }
    // A TEXT without bits has no byte but its kind.
    GlulxStrings x = new GlulxStrings();
    put(x, 100, row(16, 255));
    x.text();
    x.tree(100);
    bytes(x, "no bits", 113, b(225, 255));
  }

  // ---- promises

  private static void sign() {
    GlulxStrings x = new GlulxStrings();
    for (int i = 1; i <= 120; i++) {
      is("sign " + i, x.sign(i == 1 ? 0 : MIN + i), i);
    }
    is("sign 121", x.sign(5), FULL);
    is("sign 121 again", x.sign(0), FULL);
    is("told(14)", x.told(14), 120);
    is("text()", x.text(), NO);
    is("sign anew", x.sign(5), 1);
  }

  private static void pieceEmptiesLine() {
    GlulxStrings x = new GlulxStrings();
    is("piece(2)", piece(x, 2, 65), 0);
    is("told(14) behind a PIECE", x.told(14), 0);
    is("piece(1)", piece(x, 1, 65), BAD);
    is("told(14) behind a BAD kind", x.told(14), 0);
    is("piece(2) of 120", piece(x, 2, row(120, 65)), BAD);
    is("told(14) behind a BAD LINE", x.told(14), 0);
    for (int i = 1; i < 60; i++) {
      piece(x, 2, 65);
    }
    is("piece 60", piece(x, 2, 65), FULL);
    is("told(14) behind FULL", x.told(14), 0);
    is("piece(2) of nothing", x.piece(2), BAD);
  }

  private static void addressAlone() {
    for (int kind = 8; kind <= 9; kind++) {
      kind(kind, 0, 0);
      kind(kind, 0, MIN);
      kind(kind, BAD);
      kind(kind, BAD, 0, 0);
      kind(kind, BAD, row(20, 5));
    }
  }

  private static void pieceBad() {
    for (int kind : new int[] {0, 1, 6, 7, 10, 11, 12, -1, MIN, MAX}) {
      kind(kind, BAD, 65);
      kind(kind, BAD, 65, 66);
      kind(kind, BAD);
    }
    GlulxStrings x = new GlulxStrings();
    piece(x, 2, 0);
    piece(x, 7, 65);
    is("told(16) behind BAD", x.told(16), 0);
    for (int i = 0; i < 60; i++) {
      piece(x, 2, 65);
    }
    is("BAD ahead of FULL", piece(x, 7, 65), BAD);
    is("BAD ahead of FULL", piece(x, 2, 0), BAD);
    is("FULL", piece(x, 2, 66), FULL);
    is("told(16)", x.told(16), 60);
    is("no PIECE of it", text(x, 66), NO);
  }

  private static void textEmptiesLine() {
    GlulxStrings x = withSigns(1);
    is("a TEXT", text(x, 1), 0);
    is("told(14)", x.told(14), 0);
    is("no TEXT", text(x, 2), NO);
    is("told(14) behind NO", x.told(14), 0);
    for (int i = 1; i < 20; i++) {
      text(x, 1);
    }
    is("TEXT 20", text(x, 1), FULL);
    is("told(14) behind FULL", x.told(14), 0);
    is("told(17)", x.told(17), 20);
  }

  private static void emptyText() {
    GlulxStrings x = new GlulxStrings();
    is("an empty TEXT without PIECES", x.text(), 0);
    is("laid(0, 2)", x.laid(0, 2), 0);
    is("told(17)", x.told(17), 1);
    is("tree(100)", x.tree(100), 0);
    x.system(2, 0);
    x.table(100);
    is("print of it", x.print(x.laid(0, 0), 1), 0);
    out(x, "print of it");
  }

  private static void textNo() {
    GlulxStrings x = new GlulxStrings();
    is("a TEXT without PIECES", text(x, 1), NO);
    is("told(17)", x.told(17), 0);
    x = withSigns(1);
    is("a SIGN 0", text(x, 0), NO);
    is("its last SIGN", text(x, join(row(119, 1), b(2))), NO);
    is("its first SIGN", text(x, join(b(2), row(119, 1))), NO);
    for (int i = 0; i < 20; i++) {
      text(x, 1);
    }
    is("NO ahead of FULL", text(x, 2), NO);
    is("FULL", text(x, 1), FULL);
    is("FULL of an empty one", x.text(), FULL);
  }

  private static void laterPieces() {
    GlulxStrings x = withSigns(2);
    text(x, 1, 2);
    is("laid(0, 2)", x.laid(0, 2), 2);
    is("tree(100)", x.tree(100), 5);
    piece(x, 3, 1, 2);
    is("laid(0, 2) then", x.laid(0, 2), 1);
    is("laid(0, 1) stays", x.laid(0, 1), 5);
    is("tree(100) then", x.tree(100), 2);
    is("laid(0, 1) then", x.laid(0, 1), 2);
    is("bits(2)", x.bits(2), 1);
  }

  private static void laidAtEdges() {
    GlulxStrings x = withSigns(1);
    text(x, 1);
    is("tree(0)", x.tree(0), 2);
    is("laid(0, 0)", x.laid(0, 0), 24);
    is("tree(4070)", x.tree(4070), 2);
    is("laid(0, 0)", x.laid(0, 0), 4094);
    bytes(x, "tree(4070)", 4069, b(0), four(24, 3, 4082), branch(4091, 4092), END, b(2, 1), b(225, 1));
    x.system(2, 0);
    x.table(4070);
    is("print", x.print(4094, 9), 1);
    // With JOBS, too.
    x.print(4094, 1);
    is("tree(100) with JOBS", x.tree(100), 2);
  }

  private static void laidBelowBorder() {
    GlulxStrings x = withSigns(1);
    text(x, 1);
    x.border(4096);
    is("tree(100)", x.tree(100), 2);
    bytes(x, "tree(100)", 100, four(24, 3, 112));
    is("table(100)", x.table(100), 3);
    is("tree(124) beside it", x.tree(124), 2);
    is("told(15)", x.told(15), 3);
    is("tree(123) into it", x.tree(123), 2);
    is("told(15)", x.told(15), 0);
    x.feed(3, 7);
    x.tree(200);
    is("told(13): the TAPE stays", x.told(13), 3);
    is("told(11)", x.told(11), 4096);
  }

  private static void allBits() {
    GlulxStrings x = new GlulxStrings();
    x.text();
    is("tree of an empty TEXT", x.tree(0), 0);
    x = withSigns(1);
    text(x, row(120, 1));
    text(x, 1);
    x.text();
    is("tree of three", x.tree(0), 121 + 2 + 1);
    is("the sum", x.laid(0, 1) + x.laid(1, 1) + x.laid(2, 1), 124);
    // Sixty PIECES, each four times, and END twice.
    x = withSigns(60);
    int[] all = new int[120];
    for (int i = 0; i < 120; i++) {
      all[i] = 1 + i % 60;
    }
    for (int k = 0; k < 2; k++) {
      text(x, all);
    }
    // 61 LEAVES: END, the least of all, and 59 more have six bits, the last three PIECES five.
    is("tree of sixty PIECES", x.tree(0), 2 * 6 + 4 * (57 * 6 + 3 * 5));
    is("laid(0, 1)", x.laid(0, 1), 6 + 2 * (57 * 6 + 3 * 5));
    is("laid(1, 1)", x.laid(1, 1), 6 + 2 * (57 * 6 + 3 * 5));
  }

  private static void treeBad() {
    for (int at : new int[] {-1, -12, MIN}) {
      GlulxStrings x = new GlulxStrings();
      is("tree(" + at + ") without a TEXT", x.tree(at), BAD);
      x.text();
      is("tree(" + at + ")", x.tree(at), BAD);
      is("laid(0, 0)", x.laid(0, 0), NONE);
      is("bits(NONE)", x.bits(NONE), NONE);
    }
  }

  private static void treeNo() {
    GlulxStrings x = withSigns(1);
    for (int at : new int[] {0, 4095, 4096, MAX}) {
      is("tree(" + at + ")", x.tree(at), NO);
    }
    is("bits(NONE)", x.bits(NONE), NONE);
    x.text();
    is("tree(0)", x.tree(0), 0);
    x.forget();
    is("tree(0) behind forget()", x.tree(0), NO);
    is("byteAt(3) stays", x.byteAt(3), 13);
  }

  private static void treeFull() {
    GlulxStrings x = withSigns(1);
    text(x, 1);
    for (int at : new int[] {4071, 4072, 4084, 4095, 4096, MAX - 25, MAX - 11, MAX}) {
      is("tree(" + at + ")", x.tree(at), FULL);
    }
    bytes(x, "nothing is laid", 4071, row(25, 0));
    is("laid(0, 0)", x.laid(0, 0), NONE);
    is("laid(0, 1)", x.laid(0, 1), 0);
    is("bits(0)", x.bits(0), NONE);
    is("bits(NONE)", x.bits(NONE), NONE);
    is("tree(4070)", x.tree(4070), 2);
    is("tree(4071)", x.tree(4071), FULL);
    is("laid(0, 0) stays", x.laid(0, 0), 4094);
    // So many bits, with not a byte to spare, and with one too few.
    for (int bits : new int[] {2, 7, 8, 9, 15, 16, 17, 120, 121}) {
      x = withSigns(1);
      text(x, row(bits - 1, 1));
      int room = 24 + 1 + (bits + 7) / 8;
      is("tree of " + bits + " with a byte too few", x.tree(4097 - room), FULL);
      is("tree of " + bits, x.tree(4096 - room), bits);
    }
    x = withSigns(1);
    text(x, 1);
    text(x);
    is("tree of two and one with a byte too few", x.tree(4097 - 28), FULL);
    is("tree of two and one", x.tree(4096 - 28), 3);
    // A longer one: ten PIECES of twenty FOURs, all in two TEXTS.
    x = new GlulxStrings();
    for (int p = 1; p <= 10; p++) {
      piece(x, 5, row(20, p));
    }
    for (int k = 0; k < 2; k++) {
      for (int i = 0; i < 100; i++) {
        x.sign(5 * k + 1 + i / 20);
      }
      is("TEXT " + k, x.text(), k);
    }
    int size = 12 + 10 * 9 + 1 + 10 * 85;
    // END twice, the others once. Five pairs; END and the first one, the next two, the last two (4 each),
    // the first two of these (8), both. So END and the last four PIECES have three bits, the others four.
    is("tree(0)", x.tree(0), 2 * 3 + 4 * 3 + 6 * 4);
    int texts = 2 + (x.laid(0, 1) + 7) / 8 + (x.laid(1, 1) + 7) / 8;
    is("tree with a byte too few", x.tree(4097 - size - texts), FULL);
    is("laid(0, 0) stays", x.laid(0, 0), size);
    is("tree up to the end", x.tree(4096 - size - texts), 42);
    is("laid(0, 0) then", x.laid(0, 0), 4096 - texts);
  }

  private static void laidLast() {
    GlulxStrings x = withSigns(1);
    text(x, 1);
    is("laid(0, 0), never", x.laid(0, 0), NONE);
    is("laid(0, 1), never", x.laid(0, 1), 0);
    x.tree(0);
    is("laid(0, 0)", x.laid(0, 0), 24);
    is("laid(0, 1)", x.laid(0, 1), 2);
    x.tree(50);
    is("laid(0, 0) then", x.laid(0, 0), 74);
    text(x, 1, 1);
    is("laid(1, 0), never", x.laid(1, 0), NONE);
    is("laid(1, 1), never", x.laid(1, 1), 0);
    x.tree(4095);
    is("laid(0, 0) behind FULL", x.laid(0, 0), 74);
    is("laid(1, 0) behind FULL", x.laid(1, 0), NONE);
    x.forget();
    piece(x, 2, 1);
    text(x, 1);
    is("laid(0, 0) of one anew", x.laid(0, 0), NONE);
    is("laid(0, 1) of one anew", x.laid(0, 1), 0);
  }

  private static void laidBad() {
    GlulxStrings x = withSigns(1);
    is("laid(0, 0) without a TEXT", x.laid(0, 0), BAD);
    text(x, 1);
    is("laid(0, 2)", x.laid(0, 2), 1);
    for (int what : new int[] {-1, 3, MIN, MAX}) {
      is("laid(0, " + what + ")", x.laid(0, what), BAD);
    }
    for (int k : new int[] {-1, 1, 19, 20, MIN, MAX}) {
      for (int what = -1; what <= 3; what++) {
        is("laid(" + k + ", " + what + ")", x.laid(k, what), BAD);
      }
    }
    is("a TEXT of 120", text(x, row(120, 1)), 1);
    is("laid(1, 2)", x.laid(1, 2), 120);
    x.forget();
    is("laid(0, 2) behind forget()", x.laid(0, 2), BAD);
  }

  private static void bitsLast() {
    GlulxStrings x = withSigns(3);
    for (int p = NONE; p < 3; p++) {
      is("bits(" + p + "), never", x.bits(p), NONE);
    }
    text(x, 1, 2);
    x.tree(0);
    is("bits(NONE)", x.bits(NONE), 2);
    is("bits(0)", x.bits(0), 2);
    is("bits(1)", x.bits(1), 1);
    is("bits(2), not used", x.bits(2), NONE);
    is("tree(4090)", x.tree(4090), FULL);
    is("bits(0) behind FULL", x.bits(0), 2);
    // Then the first two are one PIECE, and each has the bits that it had when it was laid last.
    piece(x, 3, 1, 2);
    x.tree(0);
    is("bits(NONE) then", x.bits(NONE), 1);
    is("bits(3) then", x.bits(3), 1);
    is("bits(0) then", x.bits(0), 2);
    is("bits(1) then", x.bits(1), 1);
  }

  private static void bitsBad() {
    GlulxStrings x = new GlulxStrings();
    for (int p : new int[] {0, 1, -2, 59, 60, MIN, MAX}) {
      is("bits(" + p + ")", x.bits(p), BAD);
    }
    piece(x, 2, 1);
    is("bits(0)", x.bits(0), NONE);
    for (int p : new int[] {1, -2, 59, 60, MIN, MAX}) {
      is("bits(" + p + ")", x.bits(p), BAD);
    }
    x.forget();
    is("bits(0) behind forget()", x.bits(0), BAD);
  }

  private static void forget() {
    GlulxStrings x = withSigns(60);
    text(x, 1);
    x.sign(9);
    x.feed(1, 9);
    is("forget()", x.forget(), 60);
    is("told(16)", x.told(16), 0);
    is("told(17)", x.told(17), 0);
    is("told(14): the LINE stays", x.told(14), 1);
    is("told(13): the TAPE stays", x.told(13), 1);
    is("forget() again", x.forget(), 0);
    is("its text is none", x.text(), NO);
    is("a PIECE that is gone", text(x, 1), NO);
    is("an empty TEXT", x.text(), 0);
    is("forget() without PIECES", x.forget(), 0);
    is("told(17)", x.told(17), 0);
  }

  private static void endStays() {
    GlulxStrings x = withSigns(1);
    text(x, 1);
    x.forget();
    is("bits(NONE), never laid", x.bits(NONE), NONE);
    piece(x, 2, 1);
    text(x, 1);
    x.tree(0);
    x.forget();
    is("bits(NONE)", x.bits(NONE), 1);
    piece(x, 2, 2);
    is("bits(0) of one anew", x.bits(0), NONE);
    is("bits(NONE) still", x.bits(NONE), 1);
    x.forget();
    x.text();
    x.tree(0);
    is("bits(NONE) of the next tree", x.bits(NONE), 0);
  }
}
