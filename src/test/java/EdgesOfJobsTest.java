/** The edges of the document's part 4 JOBS, of the words ahead of the runs, and of the promises 7, 9, 11 to 17. */
public final class EdgesOfJobsTest extends Edges {
  private static final int OTHER = 2000;
  /** Of a function that calls itself: its orders behind the first one, as told below. */
  private static final int[] BACK = join(order(9, local(0), b(1, 1), to(0)),
      order(6, value(CODE), b(1), local(0), NOWHERE), OVER);

  public static void main(String[] args) {
    begin("EdgesOfJobsTest");
    jobs();
    steps();
    signs();
    faults();
    runs();
    promises();
    told();
    end();
  }

  private static void jobs() {
    holds("JOBS lie on one another, 40 at most; the uppermost one goes on. One more is FAULT 8.",
        EdgesOfJobsTest::fortyJobs);
    holds("One more is FAULT 8.", EdgesOfJobsTest::oneMoreByNodes);
    holds("0 a FUNCTION (PLACE: where it goes on in its code)", EdgesOfJobsTest::functionPlace);
    holds("1 a PLAIN string or a row of kind 3 (PLACE: its next byte)", EdgesOfJobsTest::plainPlace);
    holds("2 a WIDE one or a row of kind 5 (its next FOUR)", EdgesOfJobsTest::widePlace);
    holds("3 a PACKED one (the byte of its next bit; BIT: which of it, 0 .. 7)", EdgesOfJobsTest::packedPlace);
    holds("4 a number (PLACE: the number; BIT: how many of its SIGNS are out", EdgesOfJobsTest::numberPlace);
    holds("digits 48 .. 57, below 0 a 45 ahead of them", EdgesOfJobsTest::digits);
    holds("What a job begins lies on it; when that is over, it goes on behind it.", EdgesOfJobsTest::goesOnBehind);
  }

  private static void steps() {
    holds("of kinds 1, 2 the next SIGN (GIVEN), or its end", EdgesOfJobsTest::endIsStep);
    holds("of 4 the next digit (GIVEN), or its end when all are out", EdgesOfJobsTest::numberEndIsStep);
    holds("each of these a STEP of its own (the place in the tree is kept between them), a last one for another node",
        EdgesOfJobsTest::branchIsStep);
    holds("the place in the tree is kept between them", EdgesOfJobsTest::treeChangesBetween);
    holds("a FUNCTION is CALLED, its RESULT is lost", EdgesOfJobsTest::nodeResultIsLost);
  }

  private static void signs() {
    holds("0: nowhere", EdgesOfJobsTest::nowhere);
    holds("2: to the OUT, a row of 1000 (FAULT 9: no room)", EdgesOfJobsTest::outIsFull);
    holds("1: the FUNCTION at the SYSTEM's w is CALLED with it (a THING that is none: FAULT 4)",
        EdgesOfJobsTest::filterIsNone);
    holds("is CALLED with it", EdgesOfJobsTest::filterWithSign);
    holds("The SYSTEM is 0, with 0, at first.", EdgesOfJobsTest::systemAtFirst);
  }

  private static void faults() {
    holds("At a FAULT all JOBS are gone", EdgesOfJobsTest::jobsAreGone);
    holds("what was GIVEN and changed stays.", EdgesOfJobsTest::stays);
    holds("the SYSTEM, TREE, LOCALS, bytes are as they were", EdgesOfJobsTest::asTheyWere);
    holds("of several FAULTS of a STEP the one that comes first by this text", EdgesOfJobsTest::firstFault);
    holds("In a STEP that ends in a FAULT", EdgesOfJobsTest::noSignInFault);
    holds("A STEP that a FAULT ends counts.", EdgesOfJobsTest::faultCounts);
  }

  private static void runs() {
    holds("each does so many STEPS at most (0 .. 100000)", EdgesOfJobsTest::stepsAtMost);
    holds("BAD: steps.", EdgesOfJobsTest::badSteps);
    holds("answers how many SIGNS went to the OUT in it, if all is over", EdgesOfJobsTest::signsInIt);
    holds("HELD: JOBS are there still (also when the last STEP was just done, or none)", EdgesOfJobsTest::held);
    holds("-10 less the FAULT.", EdgesOfJobsTest::eachFault);
    holds("NO: JOBS are there (resume(): none is).", EdgesOfJobsTest::jobsAreThere);
  }

  private static void promises() {
    holds("The SYSTEM, with w: 0. BAD: system is not 0 .. 2.", EdgesOfJobsTest::badSystem);
    holds("A number is printed.", EdgesOfJobsTest::numberIsPrinted);
    holds("A number is printed. BAD, NO.", EdgesOfJobsTest::numberBadNo);
    holds("What is HELD goes on.", EdgesOfJobsTest::goesOn);
    holds("What is HELD goes on. BAD, NO.", EdgesOfJobsTest::resumeBadNo);
    holds("All JOBS are gone: how many there were.", EdgesOfJobsTest::stop);
    holds("How many JOBS there are.", EdgesOfJobsTest::howMany);
    holds("2 BIT (0 of others), 3 how many LOCALS (0 of others)", EdgesOfJobsTest::zeroOfOthers);
    holds("4 the address of the node that a PACKED one comes to next in the tree (NONE: the ROOT; it may be an address, too; others: 0)",
        EdgesOfJobsTest::nextNode);
    holds("10 + i LOCAL i. 0 without such a JOB, what, LOCAL.", EdgesOfJobsTest::noSuchJob);
    holds("SIGN i of the OUT; NONE (it may be one).", EdgesOfJobsTest::atNone);
    holds("The OUT is empty: how many SIGNS it had.", EdgesOfJobsTest::clear);
  }

  private static void told() {
    holds("BAD (6, 9, 10 may be that, too).", EdgesOfJobsTest::toldBad);
    holds("(6, 9, 10 may be that, too)", EdgesOfJobsTest::toldMinusTwo);
    holds("0 STEPS, 1 SIGNS to the OUT", EdgesOfJobsTest::toldSoFar);
    holds("2 to a FUNCTION (that was CALLED), 3 nowhere", EdgesOfJobsTest::toldFilter);
    holds("4 FAULTS, 5 the latest one (0)", EdgesOfJobsTest::toldFaults);
    holds("6 the RESULT of the FUNCTION that was over last (by ORDER 0; 0)", EdgesOfJobsTest::toldResult);
    holds("7 the most JOBS at a time", EdgesOfJobsTest::toldMost);
    holds("8 the SYSTEM, 9 its w, 10 where the TREE lies, 11 the BORDER", EdgesOfJobsTest::toldSettings);
    holds("12 SIGNS in the OUT, 13 bytes on the TAPE, 14 SIGNS of the LINE", EdgesOfJobsTest::toldRows);
    holds("16 PIECES, 17 TEXTS.", EdgesOfJobsTest::toldPacking);
  }

  // ---- jobs

  /** So many JOBS of the function at CODE lie on one another, and the uppermost one does the orders. */
  private static GlulxStrings deep(int jobs, int[]... orders) {
    GlulxStrings x = withCode(1, order(10, local(0), by(BACK.length)), BACK, join(orders));
    x.sign(jobs - 1);
    is("call, up to " + jobs + " JOBS", x.call(CODE, 3 * (jobs - 1) + 1), HELD);
    is("jobs()", x.jobs(), jobs);
    return x;
  }

  private static void fortyJobs() {
    int[][] beginnings = {
      order(2, value(OTHER)), order(2, value(OTHER + 10)), order(2, value(OTHER + 20)), order(3, b(0)),
      order(6, value(OTHER + 30), b(0), NOWHERE), order(1, b(0)),
    };
    for (int[] order : beginnings) {
      for (int jobs = 39; jobs <= 40; jobs++) {
        GlulxStrings x = deep(jobs, order(4, b(1, 1), value(OTHER + 30)), order);
        put(x, OTHER, b(224, 0));
        put(x, OTHER + 10, b(225, 0));
        put(x, OTHER + 20, b(226, 0));
        put(x, OTHER + 30, b(193, 0));
        is("resume(1)", x.resume(1), HELD);
        is("ORDER " + order[0] + " with " + jobs + " JOBS", x.resume(1), jobs == 40 ? fault(8) : HELD);
        is("jobs()", x.jobs(), jobs == 40 ? 0 : 40);
        is("told(7)", x.told(7), 40);
      }
    }
  }

  private static void oneMoreByNodes() {
    int[][] nodes = {{3, 0}, node(5, 0), node(8, 600), node(9, 700), node(10, 600, 0), node(11, 700, 0), node(8, 610)};
    for (int[] node : nodes) {
      for (int jobs = 38; jobs <= 39; jobs++) {
        // While JOBS are there, the TREE can be told by an order alone.
        GlulxStrings x = deep(jobs, order(5, value(TREE)), order(2, value(STRING)));
        put(x, TREE, head(0, ROOT), node);
        put(x, STRING, b(225));
        put(x, 600, b(224, 0));
        put(x, 610, b(193, 0));
        put(x, 700, four(600));
        is("5, 2", x.resume(2), HELD);
        is("jobs()", x.jobs(), jobs + 1);
        is("a node " + node[0] + " on " + (jobs + 1) + " JOBS", x.resume(1), jobs == 39 ? fault(8) : HELD);
      }
    }
  }

  private static void functionPlace() {
    GlulxStrings x = withCode(0, order(6, value(4094), b(0), NOWHERE), OVER);
    put(x, 4094, b(193, 0));
    is("call(CODE, 0)", x.call(CODE, 0), HELD);
    is("job(0, 1) ahead of its first ORDER", x.job(0, 1), CODE + 2);
    x.resume(1);
    is("job(0, 1) behind it", x.job(0, 1), CODE + 10);
    is("job(1, 1) at the end of MEMORY", x.job(1, 1), 4096);
    is("job(1, 0)", x.job(1, 0), 0);
  }

  private static void plainPlace() {
    GlulxStrings x = toOut();
    put(x, 4093, b(224, 65, 66));
    x.print(4093, 0);
    is("job(0, 1) at first", x.job(0, 1), 4094);
    x.resume(2);
    is("job(0, 1) at the end of MEMORY", x.job(0, 1), 4096);
    is("job(0, 0)", x.job(0, 0), 1);
    x = withLeaf(3, 65, 0);
    x.print(STRING, 2);
    is("job(1, 0) of a row", x.job(1, 0), 1);
    is("job(1, 1) of a row", x.job(1, 1), LEAF + 1);
    x.resume(1);
    is("job(1, 1) of a row at its end", x.job(1, 1), LEAF + 2);
  }

  private static void widePlace() {
    GlulxStrings x = toOut();
    put(x, 4088, b(226, 0, 0, 0), four(65));
    x.print(4088, 0);
    is("job(0, 1) at first", x.job(0, 1), 4092);
    x.resume(1);
    is("job(0, 1) at the end of MEMORY", x.job(0, 1), 4096);
    is("job(0, 0)", x.job(0, 0), 2);
    x = withLeaf(node(5, 65, 0));
    x.print(STRING, 2);
    is("job(1, 0) of a row", x.job(1, 0), 2);
    is("job(1, 1) of a row", x.job(1, 1), LEAF + 1);
    x.resume(1);
    is("job(1, 1) of a row at its end", x.job(1, 1), LEAF + 5);
  }

  private static void packedPlace() {
    GlulxStrings x = withLeaf(2, 65);
    put(x, STRING, b(225, 255, 255, 0));
    x.print(STRING, 0);
    for (int bit = 0; bit <= 16; bit++) {
      is("job(0, 1) behind " + bit + " bits", x.job(0, 1), STRING + 1 + bit / 8);
      is("job(0, 2) behind " + bit + " bits", x.job(0, 2), bit % 8);
      is("job(0, 4) behind " + bit + " bits", x.job(0, 4), NONE);
      x.resume(1);
      is("job(0, 4) behind a branch", x.job(0, 4), bit < 16 ? LEAF : LEAF - 1);
      if (bit < 16) {
        x.resume(1);
      }
    }
    is("job(0, 2) behind a bit more", x.job(0, 2), 1);
    is("job(0, 0)", x.job(0, 0), 3);
  }

  private static void numberPlace() {
    for (int v : new int[] {0, -7, MIN, MAX}) {
      GlulxStrings x = toOut();
      int n = Integer.toString(v).length();
      x.number(v, 0);
      for (int i = 0; i <= n; i++) {
        is("job(0, 0)", x.job(0, 0), 4);
        is("job(0, 1)", x.job(0, 1), v);
        is("job(0, 2) of " + v, x.job(0, 2), i);
        is("resume(1)", x.resume(1), i < n ? HELD : 0);
      }
      is("jobs()", x.jobs(), 0);
    }
  }

  private static void digits() {
    for (int v : new int[] {0, 1, 9, 10, 99, 100, 1234567890, -1, -9, -10, MAX, MIN, MIN + 1, 1000000000, -1000000000}) {
      GlulxStrings x = toOut();
      int[] want = Integer.toString(v).chars().toArray();
      is("number(" + v + ")", x.number(v, want.length + 1), want.length);
      out(x, "number(" + v + ")", want);
    }
  }

  private static void goesOnBehind() {
    GlulxStrings x = withLeaf(node(8, CODE));
    put(x, STRING, b(225, 3));
    put(x, CODE, function(193, 0, order(2, value(OTHER)), order(1, b(1, 66)), order(0, b(0))));
    put(x, OTHER, b(224, 65, 0));
    is("print up to the string within", x.print(STRING, 3), HELD);
    is("jobs()", x.jobs(), 3);
    is("resume up to its end", x.resume(2), HELD);
    is("jobs()", x.jobs(), 2);
    is("job(1, 1)", x.job(1, 1), CODE + 8);
    is("resume up to the function's end", x.resume(2), HELD);
    is("jobs()", x.jobs(), 1);
    is("job(0, 2)", x.job(0, 2), 1);
    is("job(0, 4)", x.job(0, 4), NONE);
    is("resume up to all ends", x.resume(9), 2);
    out(x, "print", 65, 66, 65, 66);
  }

  // ---- steps

  private static void endIsStep() {
    GlulxStrings x = toOut();
    put(x, STRING, b(224, 65, 66, 0));
    is("two SIGNS, two STEPS", x.print(STRING, 2), HELD);
    is("told(12)", x.told(12), 2);
    is("its end", x.resume(1), 0);
    put(x, STRING, b(226, 0, 0, 0), four(65, 66, 0));
    is("two FOURs, two STEPS", x.print(STRING, 2), HELD);
    is("told(12)", x.told(12), 4);
    is("its end", x.resume(1), 0);
    is("told(0)", x.told(0), 6);
  }

  private static void numberEndIsStep() {
    GlulxStrings x = toOut();
    is("number(-5, 2)", x.number(-5, 2), HELD);
    is("job(0, 2)", x.job(0, 2), 2);
    is("its end", x.resume(1), 0);
    is("number(0, 1)", x.number(0, 1), HELD);
    is("its end", x.resume(1), 0);
    is("told(0)", x.told(0), 5);
  }

  /** Two BRANCHES lead to the SIGN. */
  private static void branchIsStep() {
    GlulxStrings x = withTree(branch(121, 122), END, branch(121, 131), b(2, 65));
    put(x, STRING, b(225, 3));
    int[] nodes = {122, 131, NONE, 121};
    for (int i = 0; i < 4; i++) {
      is("STEP " + i, i == 0 ? x.print(STRING, 1) : x.resume(1), HELD);
      is("job(0, 4)", x.job(0, 4), nodes[i]);
      is("told(12)", x.told(12), i < 2 ? 0 : 1);
    }
    is("the last STEP", x.resume(1), 0);
    is("told(0)", x.told(0), 5);
  }

  /** What lies there when the STEP is done counts; load() may change it while the string is HELD. */
  private static void treeChangesBetween() {
    GlulxStrings x = withLeaf(2, 65);
    x.print(STRING, 1);
    put(x, TREE + 8, four(-1));
    put(x, LEAF, b(2, 66));
    is("the node at its place", x.resume(1), HELD);
    is("at(0)", x.at(0), 66);
    is("the ROOT anew", x.resume(1), fault(1));
  }

  private static void nodeResultIsLost() {
    GlulxStrings x = withCode(2, order(5, value(TREE)), order(2, value(STRING)), OVER);
    put(x, TREE, head(0, ROOT), branch(LEAF - 1, LEAF), END, node(8, OTHER));
    put(x, STRING, b(225, 1));
    put(x, OTHER, function(193, 0, order(0, value(77))));
    is("call", x.call(CODE, 5), HELD);
    is("jobs()", x.jobs(), 2);
    is("told(6)", x.told(6), 77);
    is("LOCAL 0", x.job(0, 10), 0);
    is("LOCAL 1", x.job(0, 11), 0);
  }

  // ---- signs

  private static void nowhere() {
    GlulxStrings x = new GlulxStrings();
    put(x, STRING, b(224), row(30, 65), b(0));
    for (int i = 0; i < 40; i++) {
      is("print", x.print(STRING, 100), 0);
    }
    is("told(3) has no end at 1000", x.told(3), 1200);
    is("told(12)", x.told(12), 0);
    is("told(1)", x.told(1), 0);
    is("told(4)", x.told(4), 0);
  }

  /** So many SIGNS are OUT. */
  private static GlulxStrings withOut(int n) {
    GlulxStrings x = withTree(b(2, 65));
    put(x, STRING, b(225));
    is("print, " + n + " STEPS", x.print(STRING, n), HELD);
    is("stop()", x.stop(), 1);
    return x;
  }

  private static void outIsFull() {
    for (int n = 999; n <= 1000; n++) {
      int want = n == 1000 ? fault(9) : HELD;
      is("a node 2 at " + n, withOut(n).print(STRING, 1), want);
      is("number at " + n, withOut(n).number(-1, 1), want);
      GlulxStrings x = withOut(n);
      put(x, 600, b(224, 66));
      is("PLAIN at " + n, x.print(600, 1), want);
      is("told(12)", x.told(12), 1000);
      is("told(1)", x.told(1), 1000);
      is("at(999)", x.at(999), n == 1000 ? 65 : 66);
      is("at(1000)", x.at(1000), NONE);
      x = withOut(n);
      put(x, 600, b(226, 0, 0, 0), four(66));
      is("WIDE at " + n, x.print(600, 1), want);
      x = withOut(n);
      put(x, ROOT, node(4, 66));
      is("a node 4 at " + n, x.print(STRING, 1), want);
      x = withOut(n);
      put(x, CODE, function(193, 0, order(1, b(1, 66)), OVER));
      is("ORDER 1 at " + n, x.call(CODE, 1), want);
      is("clear()", x.clear(), 1000);
      is("room again", x.number(5, 2), n == 1000 ? 1 : NO);
    }
  }

  private static void filterIsNone() {
    for (int kind = 0; kind < 256; kind++) {
      GlulxStrings x = new GlulxStrings();
      put(x, OTHER, b(kind, 0, 0, 0, 0));
      x.system(1, OTHER);
      boolean told = kind == 192 || kind == 193;
      is("a filter " + kind, x.number(5, 1), told ? HELD : fault(4));
      is("told(2)", x.told(2), told ? 1 : 0);
    }
    for (int at : new int[] {-1, 4096, MIN, MAX}) {
      GlulxStrings x = new GlulxStrings();
      x.system(1, at);
      is("a filter at " + at, x.number(5, 1), fault(1));
      is("told(2)", x.told(2), 0);
    }
    GlulxStrings x = new GlulxStrings();
    put(x, OTHER, b(193, 9));
    x.system(1, OTHER);
    is("a filter of nine LOCALS", x.number(5, 1), fault(4));
    put(x, 4095, b(193));
    x.system(1, 4095);
    is("a filter without n", x.number(5, 1), fault(1));
    is("told(2)", x.told(2), 0);
  }

  private static void filterWithSign() {
    for (int c : new int[] {0, -1, MIN, MAX}) {
      for (int kind = 192; kind <= 193; kind++) {
        GlulxStrings x = withCode(1, order(1, value(c)), order(0, local(0)));
        put(x, OTHER, function(kind, 3, order(0, value(77))));
        x.system(1, OTHER);
        is("1 of " + c, x.call(CODE, 1), HELD);
        is("LOCAL 0", x.job(1, 10), kind == 192 ? 1 : c);
        is("LOCAL 1", x.job(1, 11), kind == 192 ? c : 0);
        is("LOCAL 2", x.job(1, 12), 0);
        is("its RESULT is lost", x.resume(1), HELD);
        is("LOCAL 0", x.job(0, 10), 0);
        is("told(1)", x.told(1), 0);
        is("told(3)", x.told(3), 0);
        is("resume(9)", x.resume(9), 0);
      }
    }
  }

  private static void systemAtFirst() {
    GlulxStrings x = new GlulxStrings();
    is("told(8)", x.told(8), 0);
    is("told(9)", x.told(9), 0);
    x.number(5, 9);
    is("told(3)", x.told(3), 1);
    is("told(1)", x.told(1), 0);
  }

  // ---- faults

  private static void jobsAreGone() {
    GlulxStrings x = deep(40, b(18));
    is("resume(1)", x.resume(1), fault(6));
    is("jobs()", x.jobs(), 0);
    is("job(0, 1)", x.job(0, 1), 0);
    is("resume(1)", x.resume(1), NO);
    is("stop()", x.stop(), 0);
    is("table(0)", x.table(0), 0);
  }

  private static void stays() {
    GlulxStrings x = withCode(1, order(1, b(1, 65)), order(15, value(OTHER), b(1, 9)), order(5, value(-3)),
        order(4, b(1, 1), b(1, 254)), b(18));
    is("call", x.call(CODE, 9), fault(6));
    out(x, "what was GIVEN", 65);
    is("byteAt(OTHER)", x.byteAt(OTHER), 9);
    is("told(10)", x.told(10), -3);
    is("told(8)", x.told(8), 1);
    is("told(9)", x.told(9), -2);
    is("told(1)", x.told(1), 1);
  }

  private static void asTheyWere() {
    GlulxStrings x = toOut();
    x.table(-3);
    put(x, 4092, b(193, 0, 5, 1));
    is("5 of half a VALUE", x.call(4092, 1), fault(1));
    is("told(10)", x.told(10), -3);
    put(x, CODE, function(193, 0, order(4, b(0), b(4))));
    is("4 with no VALUE", x.call(CODE, 1), fault(6));
    is("told(8)", x.told(8), 2);
    is("told(9)", x.told(9), 0);
    put(x, CODE, function(193, 0, order(15, value(OTHER), b(4))));
    is("15 with no VALUE", x.call(CODE, 1), fault(6));
    is("byteAt(OTHER)", x.byteAt(OTHER), 0);
    put(x, CODE, function(193, 0, order(15, value(OTHER), b(1, 9))));
    x.border(OTHER + 1);
    is("15 below the BORDER", x.call(CODE, 1), fault(7));
    is("byteAt(OTHER)", x.byteAt(OTHER), 0);
    is("told(12)", x.told(12), 0);
  }

  private static void firstFault() {
    // The byte of an order, then its values from the left to the right, then its target.
    faults("8 of no VALUE, no LOCAL", 6, 1, order(8, b(9), local(1), to(1)));
    GlulxStrings x = toOut();
    put(x, 4092, b(193, 0, 8, 9));
    is("8 of no VALUE, then the end of MEMORY", x.call(4092, 1), fault(6));
    put(x, 4090, b(193, 0, 6, 0, 5, 1));
    is("6 of five VALUES, then the end of MEMORY", x.call(4090, 1), fault(6));
    // What a node tells of its THING, then its ARGUMENTS, then the THING.
    is("11 with its address outside, of five", withLeaf(node(11, -1, 5)).print(STRING, 2), fault(1));
    is("10 with its THING outside, of five", withLeaf(node(10, -1, 5)).print(STRING, 2), fault(5));
    is("10 of no THING, of five", withLeaf(node(10, 0, 5)).print(STRING, 2), fault(5));
    // No TREE comes ahead of all that is read by it.
    x = toOut();
    put(x, 4095, b(225));
    is("no TREE, no bits", x.print(4095, 1), fault(2));
    // A node's kind comes ahead of the bit, as it tells whether there is one.
    x = withTree(b(6));
    put(x, 4095, b(225));
    is("no kind, no bits", x.print(4095, 1), fault(3));
    // What is no THING, ahead of there being no room for it.
    x = deep(40, order(2, value(0)));
    is("2 of no string with 40 JOBS", x.resume(1), fault(4));
    x = deep(40, order(6, value(-1), b(0), NOWHERE));
    is("6 outside with 40 JOBS", x.resume(1), fault(1));
    x = deep(40, order(4, b(1, 1), b(0)), order(1, b(0)));
    is("no filter with 40 JOBS", x.resume(2), fault(4));
  }

  /** A SIGN that can't be read goes neither nowhere, nor to a function, nor to the OUT. */
  private static void noSignInFault() {
    int[][] strings = {b(224), b(226, 0, 0, 0, 0, 0), b(225)};
    for (int system = 0; system <= 2; system++) {
      for (int[] string : strings) {
        GlulxStrings x = withTree(branch(4095, 4095));
        put(x, 4096 - string.length, string);
        put(x, OTHER, function(193, 0, OVER));
        x.system(system, OTHER);
        is("print of " + string[0], x.print(4096 - string.length, 2), fault(1));
        put(x, STRING, b(225, 0));
        put(x, 4095, b(2));
        is("a node 2 at 4095", x.print(STRING, 2), fault(1));
        put(x, 4095, b(4));
        is("a node 4 at 4095", x.print(STRING, 2), fault(1));
        for (int what = 1; what <= 3; what++) {
          is("told(" + what + ")", x.told(what), 0);
        }
        is("told(12)", x.told(12), 0);
        is("told(7)", x.told(7), 1);
      }
    }
  }

  private static void faultCounts() {
    GlulxStrings x = withCode(0, order(1, b(1, 65)), b(18));
    is("call", x.call(CODE, 9), fault(6));
    is("told(0)", x.told(0), 2);
    put(x, STRING, b(225));
    is("print without a TREE", x.print(STRING, 9), fault(2));
    is("told(0)", x.told(0), 3);
    put(x, 4095, b(224));
    is("print of nothing in MEMORY", x.print(4095, 9), fault(1));
    is("told(0)", x.told(0), 4);
  }

  // ---- runs

  private static void stepsAtMost() {
    GlulxStrings x = withCode(0, order(10, b(0), by(-4)));
    int[] steps = {0, 1, 99999, 100000};
    int sum = 0;
    for (int n : steps) {
      is("call(CODE, " + n + ")", x.call(CODE, n), HELD);
      sum += n;
      is("told(0)", x.told(0), sum);
      is("resume(" + n + ")", x.resume(n), HELD);
      sum += n;
      is("told(0)", x.told(0), sum);
      x.stop();
    }
    is("number(5, 0)", x.number(5, 0), HELD);
    is("told(0)", x.told(0), sum);
    is("resume(100000)", x.resume(100000), 1);
    is("told(0)", x.told(0), sum + 2);
    put(x, STRING, b(224, 0));
    is("print(STRING, 100000)", x.print(STRING, 100000), 0);
    is("number(5, 100000)", x.number(5, 100000), 1);
  }

  private static void badSteps() {
    for (int n : new int[] {-1, 100001, MIN, MAX}) {
      GlulxStrings x = withCode(0, OVER);
      put(x, STRING, b(224, 0));
      is("print(STRING, " + n + ")", x.print(STRING, n), BAD);
      is("number(5, " + n + ")", x.number(5, n), BAD);
      is("call(CODE, " + n + ")", x.call(CODE, n), BAD);
      is("resume(" + n + ") without JOBS", x.resume(n), BAD);
      is("jobs()", x.jobs(), 0);
      x.number(5, 0);
      is("resume(" + n + ")", x.resume(n), BAD);
      is("jobs()", x.jobs(), 1);
      is("print(-1, " + n + ") with JOBS", x.print(-1, n), BAD);
      is("told(4)", x.told(4), 0);
    }
  }

  private static void signsInIt() {
    GlulxStrings x = toOut();
    is("number(123, 9)", x.number(123, 9), 3);
    is("number(123, 9) again", x.number(123, 9), 3);
    is("number(123, 2)", x.number(123, 2), HELD);
    is("resume(9)", x.resume(9), 1);
    is("number(123, 3)", x.number(123, 3), HELD);
    is("resume(9)", x.resume(9), 0);
    is("number(123, 2)", x.number(123, 2), HELD);
    is("clear()", x.clear(), 14);
    is("resume(9)", x.resume(9), 1);
    x.system(0, 0);
    is("number(123, 9) to nowhere", x.number(123, 9), 0);
    // What goes to a filter is not OUT, but for what the filter gives.
    x = withCode(1, order(4, b(1, 2), b(0)), order(1, local(0)), order(4, b(1, 1), value(CODE)), order(0, b(0)));
    x.system(1, CODE);
    is("number(12, 99) by a filter", x.number(12, 99), 2);
    out(x, "by a filter", 49, 50);
  }

  private static void held() {
    GlulxStrings x = toOut();
    is("number(7, 0)", x.number(7, 0), HELD);
    is("resume(0)", x.resume(0), HELD);
    is("resume(1)", x.resume(1), HELD);
    is("resume(0), all SIGNS are out", x.resume(0), HELD);
    is("jobs()", x.jobs(), 1);
    is("resume(1)", x.resume(1), 0);
    is("number(7, 1)", x.number(7, 1), HELD);
    x.stop();
    is("number(7, 2)", x.number(7, 2), 1);
    put(x, STRING, b(224, 0));
    is("print(STRING, 0) of an empty one", x.print(STRING, 0), HELD);
    is("resume(1)", x.resume(1), 0);
    put(x, CODE, function(193, 0, order(0, b(0))));
    is("call(CODE, 0)", x.call(CODE, 0), HELD);
    is("resume(1)", x.resume(1), 0);
  }

  private static void eachFault() {
    GlulxStrings x = withLeaf(6);
    is("FAULT 1", x.print(-1, 1), -11);
    is("FAULT 3", x.print(STRING, 2), -13);
    is("FAULT 4", x.print(0, 1), -14);
    put(x, LEAF, node(10, 0, 5));
    is("FAULT 5", x.print(STRING, 2), -15);
    put(x, CODE, function(193, 0, b(18)));
    is("FAULT 6", x.call(CODE, 1), -16);
    put(x, CODE, function(193, 0, order(15, value(-1), b(0))));
    is("FAULT 7", x.call(CODE, 1), -17);
    put(x, CODE, function(193, 0, order(6, value(CODE), b(0), NOWHERE)));
    is("FAULT 8", x.call(CODE, 99), -18);
    is("told(0)", x.told(0), 2 + 2 + 1 + 1 + 40);
    put(x, CODE, function(193, 0, order(1, b(0)), order(10, b(0), by(-6))));
    is("FAULT 9", x.call(CODE, 9999), -19);
    is("told(12)", x.told(12), 1000);
    x.table(0);
    is("FAULT 2", x.print(STRING, 1), -12);
    is("told(4)", x.told(4), 9);
  }

  private static void jobsAreThere() {
    GlulxStrings x = withCode(0, OVER);
    put(x, STRING, b(224, 0));
    is("resume(0) without JOBS", x.resume(0), NO);
    is("resume(100000) without JOBS", x.resume(100000), NO);
    x.number(5, 0);
    is("print(STRING, 1)", x.print(STRING, 1), NO);
    is("print(-1, 0)", x.print(-1, 0), NO);
    is("number(5, 0)", x.number(5, 0), NO);
    is("call(CODE, 1)", x.call(CODE, 1), NO);
    is("call(-1, 0)", x.call(-1, 0), NO);
    is("table(0)", x.table(0), NO);
    is("system(0, 0)", x.system(0, 0), NO);
    is("told(4)", x.told(4), 0);
    is("resume(9)", x.resume(9), 1);
    is("print(STRING, 1) when all is over", x.print(STRING, 1), 0);
  }

  // ---- promises

  private static void badSystem() {
    for (int system : new int[] {-1, 3, MIN, MAX}) {
      GlulxStrings x = toOut();
      is("system(" + system + ", 5)", x.system(system, 5), BAD);
      is("told(8)", x.told(8), 2);
      is("told(9)", x.told(9), 0);
    }
    for (int system = 0; system <= 2; system++) {
      for (int w : new int[] {0, -1, MIN, MAX}) {
        GlulxStrings x = toOut();
        is("system(" + system + ", " + w + ")", x.system(system, w), 0);
        is("told(8)", x.told(8), system);
        is("told(9)", x.told(9), w);
      }
    }
  }

  private static void numberIsPrinted() {
    GlulxStrings x = toOut();
    is("number(0, 2)", x.number(0, 2), 1);
    is("number(MIN, 12)", x.number(MIN, 12), 11);
    is("at(0)", x.at(0), 48);
    is("at(1)", x.at(1), 45);
    is("at(2)", x.at(2), 50);
    is("at(11)", x.at(11), 56);
  }

  private static void numberBadNo() {
    GlulxStrings x = toOut();
    for (int steps : new int[] {-1, 100001, MIN, MAX}) {
      is("number(5, " + steps + ")", x.number(5, steps), BAD);
    }
    is("jobs()", x.jobs(), 0);
    is("number(-12, 1)", x.number(-12, 1), HELD);
    is("number(5, 9)", x.number(5, 9), NO);
    is("number(5, 0)", x.number(5, 0), NO);
    is("jobs()", x.jobs(), 1);
    is("job(0, 1)", x.job(0, 1), -12);
    is("job(0, 2)", x.job(0, 2), 1);
    is("resume(9)", x.resume(9), 2);
    is("number(5, 100000)", x.number(5, 100000), 1);
  }

  private static void resumeBadNo() {
    GlulxStrings x = toOut();
    for (int steps : new int[] {0, 1, 100000}) {
      is("resume(" + steps + ") of a new object", x.resume(steps), NO);
    }
    x.number(12, 1);
    for (int steps : new int[] {-1, 100001, MIN, MAX}) {
      is("resume(" + steps + ")", x.resume(steps), BAD);
    }
    is("job(0, 2)", x.job(0, 2), 1);
    is("resume(100000)", x.resume(100000), 1);
    is("resume(1) when all is over", x.resume(1), NO);
    x.print(-1, 1);
    is("resume(1) behind a FAULT", x.resume(1), NO);
    x.number(12, 1);
    x.stop();
    is("resume(1) behind stop()", x.resume(1), NO);
  }

  private static void goesOn() {
    GlulxStrings x = toOut();
    is("number(-12, 0)", x.number(-12, 0), HELD);
    for (int i = 0; i < 3; i++) {
      is("resume(1)", x.resume(1), HELD);
      is("told(12)", x.told(12), i + 1);
      is("resume(0)", x.resume(0), HELD);
      is("told(12)", x.told(12), i + 1);
    }
    is("resume(1)", x.resume(1), 0);
    out(x, "number(-12)", 45, 49, 50);
  }

  private static void stop() {
    GlulxStrings x = deep(40, OVER);
    is("stop()", x.stop(), 40);
    is("stop() again", x.stop(), 0);
    is("jobs()", x.jobs(), 0);
    is("resume(1)", x.resume(1), NO);
    is("told(4)", x.told(4), 0);
    is("told(7)", x.told(7), 40);
    is("number(5, 9)", x.number(5, 9), 1);
  }

  private static void howMany() {
    is("jobs()", new GlulxStrings().jobs(), 0);
    is("jobs()", deep(1, OVER).jobs(), 1);
    is("jobs()", deep(40, OVER).jobs(), 40);
  }

  /** Jobs of each kind lie where a function with eight LOCALS lay, and where a number did. */
  private static void zeroOfOthers() {
    GlulxStrings x = withLeaf(2, 65);
    put(x, CODE, function(193, 8, order(7, value(-1), to(0)), order(7, value(-1), to(7))));
    int[][] strings = {b(224, 65, 66, 0), join(b(226, 0, 0, 0), four(65, 66, 0)), b(225, 255)};
    for (int[] string : strings) {
      x.call(CODE, 2);
      is("LOCAL 7", x.job(0, 17), -1);
      x.stop();
      x.number(-123, 3);
      is("BIT of a number", x.job(0, 2), 3);
      is("LOCALS of a number", x.job(0, 3), 0);
      is("LOCAL 0 of a number", x.job(0, 10), 0);
      x.stop();
      put(x, STRING, string);
      x.print(STRING, 2);
      is("BIT of " + string[0], x.job(0, 2), string[0] == 225 ? 1 : 0);
      is("LOCALS of " + string[0], x.job(0, 3), 0);
      is("LOCAL 0 of " + string[0], x.job(0, 10), 0);
      is("LOCAL 7 of " + string[0], x.job(0, 17), 0);
      x.stop();
    }
    x.call(CODE, 0);
    is("BIT of a function", x.job(0, 2), 0);
    is("LOCALS of a function", x.job(0, 3), 8);
  }

  private static void nextNode() {
    GlulxStrings x = withTree(branch(-1, 0), END);
    put(x, STRING, b(225, 0));
    x.print(STRING, 0);
    is("the ROOT", x.job(0, 4), NONE);
    x.resume(1);
    is("a node at -1", x.job(0, 4), -1);
    is("it is no ROOT", x.resume(1), fault(1));
    put(x, STRING, b(225, 1));
    x.print(STRING, 1);
    is("a node at 0", x.job(0, 4), 0);
    x.stop();
    x.print(STRING, 0);
    is("the ROOT, where a node was", x.job(0, 4), NONE);
    x.stop();
    put(x, STRING, b(224, 65, 0));
    x.print(STRING, 1);
    is("of a PLAIN string", x.job(0, 4), 0);
    x.stop();
    put(x, STRING, b(226, 0, 0, 0), four(65));
    x.print(STRING, 1);
    is("of a WIDE string", x.job(0, 4), 0);
    x.stop();
    x.number(5, 1);
    is("of a number", x.job(0, 4), 0);
    x.stop();
    put(x, CODE, function(193, 0, order(16, NOWHERE)));
    x.call(CODE, 1);
    is("of a function", x.job(0, 4), 0);
  }

  private static void noSuchJob() {
    GlulxStrings x = withCode(2, order(3, value(-5)), OVER);
    line(x, 21, 22);
    x.call(CODE, 2);
    is("job(0, 10)", x.job(0, 10), 21);
    is("job(0, 11)", x.job(0, 11), 22);
    is("job(0, 12)", x.job(0, 12), 0);
    is("job(0, 17)", x.job(0, 17), 0);
    for (int what : new int[] {-1, 5, 6, 7, 8, 9, 18, 255, MIN, MAX, MIN + 10}) {
      is("job(0, " + what + ")", x.job(0, what), 0);
      is("job(1, " + what + ")", x.job(1, what), 0);
    }
    for (int k : new int[] {-1, 2, 39, 40, MIN, MAX}) {
      for (int what : new int[] {0, 1, 2, 3, 4, 10}) {
        is("job(" + k + ", " + what + ")", x.job(k, what), 0);
      }
    }
    is("job(1, 0)", x.job(1, 0), 4);
    x.stop();
    is("job(0, 1)", x.job(0, 1), 0);
    x = withCode(8, OVER);
    line(x, 21, 22, 23, 24);
    x.call(CODE, 0);
    is("job(0, 13)", x.job(0, 13), 24);
    is("job(0, 18)", x.job(0, 18), 0);
    x.stop();
    // A packed string that is gone leaves no NONE behind.
    put(x, STRING, b(225));
    x.print(STRING, 0);
    x.stop();
    is("job(0, 4)", x.job(0, 4), 0);
  }

  private static void atNone() {
    GlulxStrings x = withCode(0, order(1, b(1, 255)), order(1, b(1, 65)), OVER);
    is("at(0)", x.at(0), NONE);
    x.call(CODE, 9);
    is("a SIGN that is NONE", x.at(0), -1);
    is("told(12)", x.told(12), 2);
    is("at(1)", x.at(1), 65);
    for (int i : new int[] {2, -1, 999, 1000, MIN, MAX}) {
      is("at(" + i + ")", x.at(i), NONE);
    }
    x = withOut(1000);
    is("at(999)", x.at(999), 65);
    is("at(1000)", x.at(1000), NONE);
  }

  private static void clear() {
    GlulxStrings x = withOut(1000);
    is("clear()", x.clear(), 1000);
    is("clear() again", x.clear(), 0);
    is("told(12)", x.told(12), 0);
    is("told(1)", x.told(1), 1000);
    is("at(0)", x.at(0), NONE);
    is("at(999)", x.at(999), NONE);
    is("print, 1000 STEPS", x.print(STRING, 1000), HELD);
    is("clear() with JOBS", x.clear(), 1000);
    is("resume(1)", x.resume(1), HELD);
    is("told(1)", x.told(1), 2001);
    is("at(0)", x.at(0), 65);
    is("at(1)", x.at(1), NONE);
  }

  // ---- promise 17

  private static void toldBad() {
    for (int what : new int[] {-1, 18, 19, MIN, MAX}) {
      is("told(" + what + ")", new GlulxStrings().told(what), BAD);
    }
    for (int what = 0; what <= 17; what++) {
      is("told(" + what + ")", new GlulxStrings().told(what), 0);
    }
  }

  private static void toldMinusTwo() {
    GlulxStrings x = withCode(0, order(0, b(1, 254)));
    x.call(CODE, 1);
    is("told(6)", x.told(6), BAD);
    x.system(2, BAD);
    is("told(9)", x.told(9), BAD);
    x.table(BAD);
    is("told(10)", x.told(10), BAD);
  }

  private static void toldSoFar() {
    GlulxStrings x = toOut();
    is("number(12, 2)", x.number(12, 2), HELD);
    is("told(0)", x.told(0), 2);
    is("told(1)", x.told(1), 2);
    x.stop();
    x.clear();
    is("number(12, 9)", x.number(12, 9), 2);
    is("told(0)", x.told(0), 5);
    is("told(1)", x.told(1), 4);
    x.system(0, 0);
    x.number(12, 9);
    is("told(0)", x.told(0), 8);
    is("told(1)", x.told(1), 4);
    is("told(3)", x.told(3), 2);
    is("told(12)", x.told(12), 2);
  }

  private static void toldFilter() {
    GlulxStrings x = new GlulxStrings();
    x.system(1, OTHER);
    is("no filter", x.number(5, 9), fault(4));
    is("told(2)", x.told(2), 0);
    put(x, OTHER, function(193, 0, order(0, b(0))));
    is("a filter", x.number(56, 99), 0);
    is("told(2)", x.told(2), 2);
    is("told(3)", x.told(3), 0);
    // A filter that gives goes into itself, up to 40 JOBS; the last SIGN goes nowhere, and does not count.
    put(x, OTHER, function(193, 0, order(1, b(0))));
    is("a filter in itself", x.number(5, 99), fault(8));
    is("told(2)", x.told(2), 2 + 39);
    is("told(3)", x.told(3), 0);
    is("told(0)", x.told(0), 1 + 5 + 40);
  }

  private static void toldFaults() {
    GlulxStrings x = toOut();
    is("told(5) at first", x.told(5), 0);
    is("print(-1, 0)", x.print(-1, 0), fault(1));
    is("told(4)", x.told(4), 1);
    is("told(5)", x.told(5), 1);
    is("print(0, 0)", x.print(0, 0), fault(4));
    is("told(4)", x.told(4), 2);
    is("told(5)", x.told(5), 4);
    is("number(5, 9)", x.number(5, 9), 1);
    is("print(0, -1)", x.print(0, -1), BAD);
    is("told(4) stays", x.told(4), 2);
    is("told(5) stays", x.told(5), 4);
  }

  private static void toldResult() {
    GlulxStrings x = withCode(0, order(6, value(OTHER), b(0), NOWHERE), order(0, b(1, 5)));
    put(x, OTHER, function(193, 0, order(0, b(1, 6))));
    is("told(6) at first", x.told(6), 0);
    x.call(CODE, 2);
    is("told(6) of the upper one", x.told(6), 6);
    x.resume(1);
    is("told(6) of the lower one", x.told(6), 5);
    put(x, CODE + 2, OVER);
    x.call(CODE, 9);
    is("told(6) behind 17", x.told(6), 5);
    x.call(CODE, 0);
    x.stop();
    is("told(6) behind stop()", x.told(6), 5);
    put(x, CODE + 2, b(18));
    x.call(CODE, 9);
    is("told(6) behind a FAULT", x.told(6), 5);
    x.number(5, 9);
    is("told(6) behind a number", x.told(6), 5);
  }

  private static void toldMost() {
    GlulxStrings x = toOut();
    is("told(7) at first", x.told(7), 0);
    x.print(-1, 1);
    is("told(7) behind a FAULT without a JOB", x.told(7), 0);
    x.number(5, 0);
    is("told(7) without a STEP", x.told(7), 1);
    x.stop();
    is("told(7) behind stop()", x.told(7), 1);
    put(x, CODE, function(193, 0, order(3, b(0)), order(3, b(0)), OVER));
    x.call(CODE, 99);
    is("told(7) of two, one behind the other", x.told(7), 2);
    x = deep(40, order(3, b(0)));
    x.resume(1);
    is("told(7) behind FAULT 8", x.told(7), 40);
  }

  private static void toldSettings() {
    GlulxStrings x = withCode(0, order(4, b(1, 1), value(MIN)), order(5, value(MAX)), order(10, b(0), by(-4)));
    x.border(4096);
    is("told(8)", x.told(8), 2);
    is("told(9)", x.told(9), 0);
    is("told(10)", x.told(10), 0);
    is("told(11)", x.told(11), 4096);
    is("call(CODE, 3)", x.call(CODE, 3), HELD);
    is("told(8) with JOBS", x.told(8), 1);
    is("told(9) with JOBS", x.told(9), MIN);
    is("told(10) with JOBS", x.told(10), MAX);
    x.border(0);
    is("told(11) with JOBS", x.told(11), 0);
    x.stop();
    x.table(-7);
    x.system(0, MAX);
    is("told(8)", x.told(8), 0);
    is("told(9)", x.told(9), MAX);
    is("told(10)", x.told(10), -7);
  }

  private static void toldPacking() {
    GlulxStrings x = new GlulxStrings();
    for (int i = 1; i <= 60; i++) {
      piece(x, 2, i);
      is("told(16)", x.told(16), i);
    }
    for (int i = 1; i <= 20; i++) {
      x.text();
      is("told(17)", x.told(17), i);
    }
    piece(x, 2, 1);
    x.text();
    x.tree(0);
    is("told(16) behind FULL", x.told(16), 60);
    is("told(17) behind FULL", x.told(17), 20);
    x.forget();
    is("told(16) behind forget()", x.told(16), 0);
    is("told(17) behind forget()", x.told(17), 0);
  }

  private static void toldRows() {
    GlulxStrings x = toOut();
    put(x, STRING, b(224, 0));
    for (int i = 0; i < 75; i++) {
      x.feed(8, 0);
    }
    for (int i = 0; i < 120; i++) {
      x.sign(1);
    }
    is("told(13)", x.told(13), 600);
    is("told(14)", x.told(14), 120);
    x.number(5, 1);
    is("told(12) with JOBS", x.told(12), 1);
    x.load(1000);
    x.text();
    is("told(13)", x.told(13), 0);
    is("told(14)", x.told(14), 0);
  }
}
