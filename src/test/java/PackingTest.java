/** Promises 18 to 24: sign, piece, text, tree, laid, bits, forget. */
public final class PackingTest {
  private static final Due due = new Due("PackingTest");

  public static void main(String[] args) {
    sign();
    piece();
    text();
    parting();
    likes();
    emptyTexts();
    layout();
    ties();
    kinds();
    laidAndBits();
    room();
    most();
    overOthers();
    forget();
    due.end();
  }

  private static void sign() {
    GlulxStrings x = new GlulxStrings();
    for (int i = 1; i <= 120; i++) {
      due.is("sign " + i, x.sign(i == 1 ? 0 : -i), i);
    }
    due.is("sign 121", x.sign(1), Due.FULL);
    due.is("told(14)", x.told(14), 120);
    due.is("a LINE that is no TEXT", x.text(), Due.NO);
    due.is("told(14)", x.told(14), 0);
  }

  private static int[] signs(int n, int c) {
    int[] row = new int[n];
    java.util.Arrays.fill(row, c);
    return row;
  }

  private static void piece() {
    GlulxStrings x = new GlulxStrings();
    for (int kind : new int[] {-1, 0, 1, 6, 7, 10, 11, 12, Integer.MIN_VALUE}) {
      due.is("piece(" + kind + ")", Due.piece(x, kind, 65), Due.BAD);
      due.is("told(14)", x.told(14), 0);
    }
    due.is("2 of nothing", Due.piece(x, 2), Due.BAD);
    due.is("2 of two", Due.piece(x, 2, 65, 66), Due.BAD);
    due.is("2 of 0", Due.piece(x, 2, 0), Due.BAD);
    due.is("2 of 256", Due.piece(x, 2, 256), Due.BAD);
    due.is("2 of -1", Due.piece(x, 2, -1), Due.BAD);
    due.is("2 of 1", Due.piece(x, 2, 1), 0);
    due.is("2 of 255", Due.piece(x, 2, 255), 1);
    due.is("3 of one", Due.piece(x, 3, 65), Due.BAD);
    due.is("3 of 21", Due.piece(x, 3, signs(21, 65)), Due.BAD);
    due.is("3 of 120", Due.piece(x, 3, signs(120, 65)), Due.BAD);
    due.is("3 with 0", Due.piece(x, 3, 65, 0), Due.BAD);
    due.is("3 with 256", Due.piece(x, 3, 65, 256), Due.BAD);
    due.is("3 of 20", Due.piece(x, 3, signs(20, 65)), 2);
    due.is("4 of 0", Due.piece(x, 4, 0), Due.BAD);
    due.is("4 of two", Due.piece(x, 4, 1, 2), Due.BAD);
    due.is("4 of -1", Due.piece(x, 4, -1), 3);
    due.is("5 of one", Due.piece(x, 5, 70000), Due.BAD);
    due.is("5 with 0", Due.piece(x, 5, 70000, 0), Due.BAD);
    due.is("5 of 21", Due.piece(x, 5, signs(21, 70000)), Due.BAD);
    due.is("5 of 20", Due.piece(x, 5, signs(20, 70000)), 4);
    due.is("8 of nothing", Due.piece(x, 8), Due.BAD);
    due.is("8 of two", Due.piece(x, 8, 1, 2), Due.BAD);
    due.is("8 of 0", Due.piece(x, 8, 0), 5);
    due.is("9 of -5", Due.piece(x, 9, -5), 6);
    due.is("told(16)", x.told(16), 7);
    for (int i = 7; i < 60; i++) {
      due.is("piece " + i, Due.piece(x, 2, 65), i);
    }
    due.is("piece 60", Due.piece(x, 2, 65), Due.FULL);
    due.is("told(14)", x.told(14), 0);
    due.is("piece 60, BAD", Due.piece(x, 2, 0), Due.BAD);
    due.is("told(16)", x.told(16), 60);
  }

  private static void text() {
    GlulxStrings x = new GlulxStrings();
    due.is("an empty TEXT", x.text(), 0);
    due.is("no PIECES", Due.text(x, 65), Due.NO);
    due.is("told(14)", x.told(14), 0);
    Due.piece(x, 2, 65);
    due.is("a TEXT", Due.text(x, 65, 65), 1);
    due.is("a rest", Due.text(x, 65, 66), Due.NO);
    for (int i = 2; i < 20; i++) {
      due.is("TEXT " + i, Due.text(x, 65), i);
    }
    due.is("TEXT 20", Due.text(x, 65), Due.FULL);
    due.is("told(14)", x.told(14), 0);
    due.is("TEXT 20, NO", Due.text(x, 66), Due.NO);
    due.is("TEXT 20, empty", x.text(), Due.FULL);
    due.is("told(17)", x.told(17), 20);
  }

  /** abcde as a bcd e (three), as abc d e (three) and as ab cde (two). */
  private static void parting() {
    GlulxStrings x = new GlulxStrings();
    for (int c = 97; c <= 101; c++) {
      Due.piece(x, 2, c);
    }
    due.is("abcde", Due.text(x, 97, 98, 99, 100, 101), 0);
    due.is("laid(0, 2) by ones", x.laid(0, 2), 5);
    Due.piece(x, 3, 98, 99, 100);
    due.is("laid(0, 2) by a bcd e", x.laid(0, 2), 3);
    x.tree(100);
    due.is("bits of bcd", x.bits(5), 2);
    Due.piece(x, 3, 97, 98, 99);
    due.is("laid(0, 2) by abc d e", x.laid(0, 2), 3);
    x.tree(100);
    due.is("abc is taken, as the first one is longer", x.bits(6), 2);
    due.is("d is taken", x.bits(3), 2);
    Due.piece(x, 3, 97, 98);
    Due.piece(x, 5, 99, 100, 101);
    due.is("laid(0, 2) by ab cde", x.laid(0, 2), 2);
    x.tree(100);
    due.is("bits of ab", x.bits(7), 2);
    due.is("bits of cde", x.bits(8), 1);
    due.is("bits of abc stay", x.bits(6), 2);
    due.is("a wrong way at first", Due.text(x, 97, 98, 99, 100), 1);
    due.is("laid(1, 2)", x.laid(1, 2), 2);
    due.is("nothing fits", Due.text(x, 97, 102), Due.NO);
  }

  private static void likes() {
    GlulxStrings x = new GlulxStrings();
    Due.piece(x, 4, 65);
    Due.piece(x, 2, 65);
    Due.piece(x, 8, 500);
    Due.piece(x, 4, -1002);
    Due.piece(x, 4, -1005);
    Due.piece(x, 9, 600);
    due.is("a TEXT of likes", Due.text(x, 65, -1002, -1005), 0);
    due.is("tree(1000)", x.tree(1000), 8);
    due.is("bits(0)", x.bits(0), 2);
    due.is("bits(1)", x.bits(1), Due.NONE);
    due.is("bits(2)", x.bits(2), 2);
    due.is("bits(3)", x.bits(3), Due.NONE);
    due.is("bits(4)", x.bits(4), 2);
    due.is("bits(5)", x.bits(5), Due.NONE);
    due.is("no such PIECE", Due.text(x, -1006), Due.NO);
  }

  private static void bytes(GlulxStrings x, String what, int at, int... want) {
    for (int i = 0; i < want.length; i++) {
      due.is(what + ": byteAt(" + (at + i) + ")", x.byteAt(at + i), want[i] & 255);
    }
  }

  private static void emptyTexts() {
    GlulxStrings x = new GlulxStrings();
    x.text();
    x.text();
    due.is("tree of empty TEXTS", x.tree(4081), 0);
    bytes(x, "empty TEXTS", 4081, Due.join(Due.four(13, 1, 4093), Due.b(1, 225, 225)));
    due.is("laid(0, 0)", x.laid(0, 0), 4094);
    due.is("laid(1, 0)", x.laid(1, 0), 4095);
    due.is("laid(1, 1)", x.laid(1, 1), 0);
    due.is("laid(1, 2)", x.laid(1, 2), 0);
    due.is("bits(NONE)", x.bits(Due.NONE), 0);
    x.table(4081);
    due.is("print(4095, 1)", x.print(4095, 1), 0);
    due.is("tree(4082)", x.tree(4082), Due.FULL);
  }

  /** Uses: END 1, a 4, b 2: END and b are joined, then that (3) and a (4). */
  private static void layout() {
    GlulxStrings x = new GlulxStrings();
    Due.piece(x, 2, 97);
    Due.piece(x, 2, 98);
    Due.text(x, 97, 98, 97, 97, 98, 97);
    Due.put(x, 70, 255, 255, 255, 255);
    due.is("tree(40)", x.tree(40), 10);
    bytes(x, "the tree", 40, Due.join(Due.four(35, 5, 52), Due.b(0), Due.four(61, 73),
        Due.b(0), Due.four(70, 71), Due.b(1, 2, 98, 2, 97)));
    // a 1, b 01, END 00, the lowest bit first: 1 01 1 1 01 1 00.
    bytes(x, "the TEXT", 75, 225, 0b11011101, 0);
    due.is("laid(0, 0)", x.laid(0, 0), 75);
    due.is("laid(0, 1)", x.laid(0, 1), 10);
    due.is("byteAt(78)", x.byteAt(78), 0);
    x.table(40);
    x.system(2, 0);
    due.is("print(75)", x.print(75, 100), 6);
    due.out(x, "print(75)", 97, 98, 97, 97, 98, 97);
    x.border(75);
    due.is("table(40)", x.table(40), 5);
  }

  /** Four leaves of one use each: END with the first, the others, then both. */
  private static void ties() {
    GlulxStrings x = new GlulxStrings();
    Due.piece(x, 2, 97);
    Due.piece(x, 2, 98);
    Due.piece(x, 2, 99);
    Due.text(x, 99, 98, 97);
    due.is("tree(0)", x.tree(0), 8);
    bytes(x, "ties", 0, Due.join(Due.four(46, 7, 12), Due.b(0), Due.four(21, 33),
        Due.b(0), Due.four(30, 31), Due.b(1, 2, 97),
        Due.b(0), Due.four(42, 44), Due.b(2, 98, 2, 99)));
    // c 11, b 10, a 01, END 00.
    bytes(x, "ties", 46, 225, 0b00100111);
    due.is("laid(0, 0)", x.laid(0, 0), 46);
  }

  private static void kinds() {
    GlulxStrings x = new GlulxStrings();
    Due.put(x, 2000, 224, 88, 0);
    Due.put(x, 2010, Due.four(2000));
    Due.piece(x, 3, 97, 98);
    Due.piece(x, 4, -1);
    Due.piece(x, 5, 70000, 80000);
    Due.piece(x, 8, 2000);
    Due.piece(x, 9, 2010);
    Due.text(x, 97, 98, -1, 70000, 80000, -1003, -1004);
    due.is("tree(100)", x.tree(100), 2 * 3 + 4 * 2 + 2);
    x.border(4096);
    due.is("table(100)", x.table(100), 11);
    due.is("byteAt(103)", x.byteAt(103), 12 + 5 * 9 + 1 + 4 + 5 + 13 + 5 + 5);
    x.system(2, 0);
    due.is("print", x.print(x.laid(0, 0), 1000), 7);
    due.out(x, "print", 97, 98, -1, 70000, 80000, 88, 88);
  }

  private static void laidAndBits() {
    GlulxStrings x = new GlulxStrings();
    Due.piece(x, 2, 97);
    Due.text(x, 97);
    due.is("laid(0, 0)", x.laid(0, 0), Due.NONE);
    due.is("laid(0, 1)", x.laid(0, 1), 0);
    due.is("laid(0, 2)", x.laid(0, 2), 1);
    due.is("laid(0, 3)", x.laid(0, 3), Due.BAD);
    due.is("laid(0, -1)", x.laid(0, -1), Due.BAD);
    due.is("laid(1, 0)", x.laid(1, 0), Due.BAD);
    due.is("laid(-1, 0)", x.laid(-1, 0), Due.BAD);
    due.is("bits(0)", x.bits(0), Due.NONE);
    due.is("bits(1)", x.bits(1), Due.BAD);
    due.is("bits(-2)", x.bits(-2), Due.BAD);
    due.is("tree(50)", x.tree(50), 2);
    due.is("laid(0, 0)", x.laid(0, 0), 50 + 12 + 9 + 1 + 2);
    Due.text(x, 97, 97);
    due.is("laid(1, 0)", x.laid(1, 0), Due.NONE);
    due.is("tree(60)", x.tree(60), 5);
    due.is("laid(0, 0)", x.laid(0, 0), 60 + 24);
    due.is("laid(1, 0)", x.laid(1, 0), 60 + 26);
    due.is("laid(1, 1)", x.laid(1, 1), 3);
  }

  private static void room() {
    GlulxStrings x = new GlulxStrings();
    due.is("tree(-1) without a TEXT", x.tree(-1), Due.BAD);
    due.is("tree(5000) without a TEXT", x.tree(5000), Due.NO);
    Due.piece(x, 2, 97);
    Due.text(x, 97);
    due.is("tree(-1)", x.tree(-1), Due.BAD);
    due.is("tree(MAX)", x.tree(Integer.MAX_VALUE), Due.FULL);
    due.is("tree(4071)", x.tree(4071), Due.FULL);
    due.is("byteAt(4074)", x.byteAt(4074), 0);
    due.is("laid(0, 0)", x.laid(0, 0), Due.NONE);
    due.is("bits(NONE)", x.bits(Due.NONE), Due.NONE);
    due.is("tree(4070)", x.tree(4070), 2);
    due.is("byteAt(4095)", x.byteAt(4095), 1);
    x.border(4096);
    x.number(1, 0);
    due.is("tree(10) below the BORDER, with JOBS", x.tree(10), 2);
  }

  /** Sixty pieces, all used, a text of 120 signs, and twenty texts. */
  private static void most() {
    GlulxStrings x = new GlulxStrings();
    for (int p = 0; p < 60; p++) {
      Due.piece(x, 2, 1 + p);
    }
    for (int i = 0; i < 120; i++) {
      x.sign(1 + i % 60);
    }
    due.is("a TEXT of 120", x.text(), 0);
    due.is("laid(0, 2)", x.laid(0, 2), 120);
    // END 1, sixty of 2. What is made: 3, 29 of 4, 5, 14 of 8, 9, 7 of 16, 25, 3 of 32, 57, 64, 121.
    due.is("tree(0)", x.tree(0), 3 + 29 * 4 + 5 + 14 * 8 + 9 + 7 * 16 + 25 + 3 * 32 + 57 + 64 + 121);
    due.is("byteAt(7)", x.byteAt(7), 121);
    due.is("bits(NONE)", x.bits(Due.NONE), 6);
    due.is("laid(0, 0)", x.laid(0, 0), 12 + 60 * 9 + 60 * 2 + 1);
    x.border(4096);
    due.is("table(1)", x.table(1), 0);
    x = new GlulxStrings();
    Due.piece(x, 2, 97);
    for (int k = 0; k < 20; k++) {
      Due.text(x, signs(k, 97));
    }
    due.is("tree(100) of twenty TEXTS", x.tree(100), 20 + 190);
    for (int k = 0; k < 20; k++) {
      due.is("laid(" + k + ", 1)", x.laid(k, 1), k + 1);
    }
    due.is("laid(19, 0)", x.laid(19, 0), 124 + 19 + 8 * 1 + 8 * 2 + 3 * 3);
  }

  /** Two texts over bytes that are not 0, with not one to spare. */
  private static void overOthers() {
    GlulxStrings x = new GlulxStrings();
    int end = 12 + 4 * 9 + 1 + 2 + 2 + 4 + 13;
    Due.put(x, 100, signs(end + 20, 255));
    Due.piece(x, 2, 97);
    Due.piece(x, 2, 98);
    Due.piece(x, 3, 99, 99);
    Due.piece(x, 5, 70000, 80000);
    Due.text(x, 97, 97, 97, 97, 97, 98, 98, 98, 98, 99, 99);
    Due.text(x, 97, 97, 97, 97, 97, 98, 98, 98, 98, 70000, 80000);
    // Uses: END 2, a 10, b 8, cc 1, dd 1: cc and dd (2), END and these (4), these and b (12), a and these.
    due.is("tree(100)", x.tree(100), 10 + 2 * 8 + 3 * 2 + 4 * 2);
    due.is("bits(NONE)", x.bits(Due.NONE), 3);
    due.is("bits(0)", x.bits(0), 1);
    due.is("bits(3)", x.bits(3), 4);
    bytes(x, "over others", 100, Due.join(Due.four(end, 9, 112), Due.b(0), Due.four(121, 123), Due.b(2, 97),
        Due.b(0), Due.four(132, 168), Due.b(0), Due.four(141, 142), Due.b(1),
        Due.b(0), Due.four(151, 155), Due.b(3, 99, 99, 0, 5), Due.four(70000, 80000, 0), Due.b(2, 98)));
    due.is("laid(0, 0)", x.laid(0, 0), 100 + end);
    due.is("laid(0, 1)", x.laid(0, 1), 20);
    due.is("laid(1, 0)", x.laid(1, 0), 100 + end + 4);
    // a 0, b 11, END 100, cc 1010, dd 1011.
    bytes(x, "over others", 100 + end, 225, 0b11100000, 0b10111111, 0b0010);
    bytes(x, "over others", 104 + end, 225, 0b11100000, 0b10111111, 0b0011, 255);
    due.is("tree up to the end", x.tree(4096 - end - 8), 40);
    due.is("tree beyond the end", x.tree(4096 - end - 7), Due.FULL);
  }

  private static void forget() {
    GlulxStrings x = new GlulxStrings();
    Due.piece(x, 2, 97);
    Due.piece(x, 2, 98);
    Due.text(x, 97);
    x.tree(50);
    x.sign(4);
    due.is("forget()", x.forget(), 2);
    due.is("told(16)", x.told(16), 0);
    due.is("told(17)", x.told(17), 0);
    due.is("told(14)", x.told(14), 1);
    due.is("bits(0)", x.bits(0), Due.BAD);
    due.is("bits(NONE)", x.bits(Due.NONE), 1);
    due.is("laid(0, 0)", x.laid(0, 0), Due.BAD);
    due.is("tree(0)", x.tree(0), Due.NO);
    due.is("byteAt(53)", x.byteAt(53), 24);
    x.piece(0);
    due.is("a PIECE anew", Due.piece(x, 2, 99), 0);
    due.is("bits(0)", x.bits(0), Due.NONE);
    due.is("a TEXT of a PIECE that is gone", Due.text(x, 98), Due.NO);
    due.is("a TEXT anew", Due.text(x, 99), 0);
    due.is("laid(0, 0)", x.laid(0, 0), Due.NONE);
    due.is("laid(0, 1)", x.laid(0, 1), 0);
    due.is("forget()", x.forget(), 1);
  }
}
