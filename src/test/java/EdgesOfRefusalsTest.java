/** What the document says of all calls: what is refused changes nothing, and which answer comes first. */
public final class EdgesOfRefusalsTest extends Edges {
  public static void main(String[] args) {
    begin("EdgesOfRefusalsTest");
    holds("BAD, NO, FULL change nothing (but the LINE and the TAPE, where told)", EdgesOfRefusalsTest::memoryCalls);
    holds("BAD, NO, FULL change nothing", EdgesOfRefusalsTest::calls);
    holds("BAD, NO, FULL change nothing", EdgesOfRefusalsTest::runsWithoutJobs);
    holds("BAD, NO, FULL change nothing", EdgesOfRefusalsTest::runsWithJobs);
    holds("BAD, NO, FULL change nothing", EdgesOfRefusalsTest::packing);
    holds("(but the LINE and the TAPE, where told)", EdgesOfRefusalsTest::lineAndTape);
    holds("of several the one that stands first in a call's comment is answered.", EdgesOfRefusalsTest::whichIsFirst);
    holds("of several the one that stands first in a call's comment is answered.", EdgesOfRefusalsTest::whichRunIsFirst);
    holds("of several the one that stands first in a call's comment is answered.", EdgesOfRefusalsTest::whichPackingIsFirst);
    end();
  }

  /** An object of which each part holds something; no JOBS are there. */
  private static GlulxStrings full() {
    GlulxStrings x = withTree(branch(121, 122), END, b(2, 65));
    x.border(200);
    x.table(TREE);
    x.system(2, -9);
    put(x, CODE, function(193, 2, order(1, b(1, 66)), order(0, b(1, 5))));
    x.call(CODE, 9);
    x.print(-1, 0);
    piece(x, 2, 97);
    piece(x, 2, 98);
    text(x, 97);
    x.tree(3000);
    x.feed(3, 0x010203);
    line(x, 21, 22);
    return x;
  }

  /** Likewise, and a number in the midst of it on a function. */
  private static GlulxStrings running() {
    GlulxStrings x = full();
    x.load(2500);
    put(x, CODE, function(193, 2, order(3, b(1, 155)), order(0, b(1, 5))));
    x.feed(3, 0x010203);
    x.call(CODE, 2);
    line(x, 21, 22);
    is("jobs()", x.jobs(), 2);
    return x;
  }

  private static GlulxStrings withLine(int n) {
    GlulxStrings x = full();
    line(x, row(n - x.told(14), 5));
    return x;
  }

  private static void memoryCalls() {
    GlulxStrings a = full();
    refused(a, "feed(0, 5)", () -> a.feed(0, 5), BAD);
    refused(a, "feed(9, 5)", () -> a.feed(9, 5), BAD);
    refused(a, "border(-1)", () -> a.border(-1), BAD);
    refused(a, "border(4097)", () -> a.border(4097), BAD);
    refused(a, "byteAt(4096)", () -> a.byteAt(4096), NONE);
    GlulxStrings c = full();
    for (int i = 0; i < 74; i++) {
      c.feed(8, 0);
    }
    refused(c, "feed(6, 5) at 595", () -> c.feed(6, 5), FULL);
    c.feed(5, 0);
    refused(c, "feed(1, 5) at 600", () -> c.feed(1, 5), FULL);
  }

  private static void calls() {
    GlulxStrings a = full();
    refused(a, "system(3, 5)", () -> a.system(3, 5), BAD);
    refused(a, "system(-1, 5)", () -> a.system(-1, 5), BAD);
    refused(a, "told(18)", () -> a.told(18), BAD);
    refused(a, "at(-1)", () -> a.at(-1), NONE);
    refused(a, "job(0, 0)", () -> a.job(0, 0), 0);
    GlulxStrings c = running();
    refused(c, "table(0)", () -> c.table(0), NO);
    refused(c, "table(TREE)", () -> c.table(TREE), NO);
    refused(c, "system(0, 5)", () -> c.system(0, 5), NO);
    GlulxStrings d = withLine(120);
    refused(d, "sign(5) at 120", () -> d.sign(5), FULL);
  }

  private static void runsWithoutJobs() {
    GlulxStrings a = full();
    refused(a, "print(STRING, -1)", () -> a.print(STRING, -1), BAD);
    refused(a, "number(5, 100001)", () -> a.number(5, 100001), BAD);
    refused(a, "call(CODE, -1)", () -> a.call(CODE, -1), BAD);
    refused(a, "call(-1, 100001)", () -> a.call(-1, 100001), BAD);
    GlulxStrings c = withLine(5);
    refused(c, "call(CODE, 5) with a LINE of five", () -> c.call(CODE, 5), BAD);
    refused(c, "resume(5)", () -> c.resume(5), NO);
    refused(c, "resume(0)", () -> c.resume(0), NO);
    refused(c, "resume(-1)", () -> c.resume(-1), BAD);
  }

  private static void runsWithJobs() {
    GlulxStrings a = running();
    refused(a, "print(-1, 5)", () -> a.print(-1, 5), NO);
    refused(a, "number(5, 5)", () -> a.number(5, 5), NO);
    refused(a, "call(CODE, 5)", () -> a.call(CODE, 5), NO);
    GlulxStrings c = running();
    refused(c, "resume(-1)", () -> c.resume(-1), BAD);
    refused(c, "resume(100001)", () -> c.resume(100001), BAD);
    refused(c, "print(STRING, 100001)", () -> c.print(STRING, 100001), BAD);
  }

  private static void packing() {
    GlulxStrings a = full();
    refused(a, "tree(-1)", () -> a.tree(-1), BAD);
    refused(a, "tree(4090)", () -> a.tree(4090), FULL);
    refused(a, "laid(1, 0)", () -> a.laid(1, 0), BAD);
    refused(a, "laid(0, 3)", () -> a.laid(0, 3), BAD);
    refused(a, "bits(2)", () -> a.bits(2), BAD);
    GlulxStrings c = full();
    c.forget();
    refused(c, "tree(3000)", () -> c.tree(3000), NO);
    refused(c, "laid(0, 0)", () -> c.laid(0, 0), BAD);
    refused(c, "bits(0)", () -> c.bits(0), BAD);
  }

  private static void lineAndTape() {
    GlulxStrings a = full();
    refusedBut(13, a, "load(4094)", () -> a.load(4094), BAD);
    is("told(13)", a.told(13), 0);
    refusedBut(14, a, "piece(7)", () -> a.piece(7), BAD);
    is("told(14)", a.told(14), 0);
    line(a, 99);
    refusedBut(14, a, "text()", () -> a.text(), NO);
    is("told(14)", a.told(14), 0);
    GlulxStrings c = full();
    c.text();
    for (int i = 2; i < 60; i++) {
      piece(c, 2, 97);
    }
    line(c, 97);
    refusedBut(14, c, "piece(2)", () -> c.piece(2), FULL);
    is("told(14)", c.told(14), 0);
    for (int i = 1; i < 20; i++) {
      c.text();
    }
    line(c, 97);
    refusedBut(14, c, "text()", () -> c.text(), FULL);
    is("told(14)", c.told(14), 0);
  }

  private static void whichIsFirst() {
    GlulxStrings x = full();
    for (int i = 0; i < 74; i++) {
      x.feed(8, 0);
    }
    x.feed(5, 0);
    is("feed: BAD, FULL", x.feed(9, 0), BAD);
    is("feed: BAD, FULL", x.feed(0, 0), BAD);
    is("feed: FULL", x.feed(8, 0), FULL);
    x = running();
    is("system: BAD, NO", x.system(3, 0), BAD);
    is("system: BAD, NO", x.system(-1, 0), BAD);
    is("system: NO", x.system(0, 0), NO);
  }

  private static void whichRunIsFirst() {
    GlulxStrings x = running();
    is("print: BAD, NO", x.print(STRING, -1), BAD);
    is("print: BAD, NO, FAULT 1", x.print(-1, 100001), BAD);
    is("print: NO, FAULT 1", x.print(-1, 0), NO);
    is("number: BAD, NO", x.number(5, -1), BAD);
    is("call: BAD, NO", x.call(CODE, -1), BAD);
    is("call: NO, FAULT 4", x.call(0, 5), NO);
    line(x, 1, 2, 3);
    is("call: BAD by the LINE, NO", x.call(CODE, 5), BAD);
    is("told(14)", x.told(14), 5);
    x.stop();
    is("resume: BAD, NO", x.resume(-1), BAD);
    is("resume: BAD, NO", x.resume(100001), BAD);
    is("resume: NO", x.resume(100000), NO);
    is("call: BAD by the LINE, FAULT 1", x.call(-1, 5), BAD);
    is("told(4)", x.told(4), 1);
  }

  private static void whichPackingIsFirst() {
    GlulxStrings x = new GlulxStrings();
    is("tree: BAD, NO", x.tree(-1), BAD);
    is("tree: NO, FULL", x.tree(4096), NO);
    for (int i = 0; i < 60; i++) {
      piece(x, 2, 97);
    }
    is("piece: BAD by its kind, FULL", piece(x, 6, 97), BAD);
    is("piece: BAD by the LINE, FULL", piece(x, 2, 0), BAD);
    is("piece: BAD, an empty LINE, FULL", x.piece(2), BAD);
    is("piece: FULL", piece(x, 2, 97), FULL);
    for (int i = 0; i < 20; i++) {
      text(x, 97);
    }
    is("text: NO, FULL", text(x, 98), NO);
    is("text: FULL", text(x, 97), FULL);
    is("tree: BAD", x.tree(-1), BAD);
    is("tree: FULL", x.tree(4096), FULL);
  }
}
