/** Promises 7 to 9, 11 and 15: system, print, number, resume, at: strings, nodes and their faults. */
public final class StringsTest {
  private static final Due due = new Due("StringsTest");

  public static void main(String[] args) {
    system();
    print();
    wide();
    number();
    packed();
    nodes();
    things();
    packedFaults();
    outFull();
    jobsFull();
    due.end();
  }

  private static void system() {
    GlulxStrings x = new GlulxStrings();
    due.is("system(-1, 0)", x.system(-1, 0), Due.BAD);
    due.is("system(3, 0)", x.system(3, 0), Due.BAD);
    due.is("system(2, -2)", x.system(2, -2), 0);
    due.is("told(8)", x.told(8), 2);
    due.is("told(9)", x.told(9), -2);
    due.is("system(0, 5)", x.system(0, 5), 0);
    due.is("told(9)", x.told(9), 5);
    x.number(1, 0);
    due.is("system(1, 0) with JOBS", x.system(1, 0), Due.NO);
    due.is("system(3, 0) with JOBS", x.system(3, 0), Due.BAD);
    due.is("told(8)", x.told(8), 0);
  }

  private static void print() {
    GlulxStrings x = new GlulxStrings();
    x.system(2, 0);
    Due.put(x, 10, 224, 1, 255, 0);
    due.is("print(10, -1)", x.print(10, -1), Due.BAD);
    due.is("print(10, 100001)", x.print(10, 100001), Due.BAD);
    due.is("print(10, 100000)", x.print(10, 100000), 2);
    due.out(x, "print", 1, 255);
    due.is("print(10, 3)", x.print(10, 3), 2);
    due.is("print(10, 0)", x.print(10, 0), Due.HELD);
    due.is("print with JOBS", x.print(10, 1), Due.NO);
    due.is("print with JOBS, BAD", x.print(10, -1), Due.BAD);
    due.is("print of nothing with JOBS", x.print(-1, 1), Due.NO);
    due.is("resume(-1)", x.resume(-1), Due.BAD);
    due.is("resume(100001)", x.resume(100001), Due.BAD);
    due.is("resume(0)", x.resume(0), Due.HELD);
    due.is("resume(1)", x.resume(1), Due.HELD);
    due.is("resume(1)", x.resume(1), Due.HELD);
    due.is("resume(1)", x.resume(1), 0);
    due.is("resume(1)", x.resume(1), Due.NO);
    due.is("resume(-1)", x.resume(-1), Due.BAD);
    due.is("told(0)", x.told(0), 9);
    due.is("print(-1, 0)", x.print(-1, 0), Due.fault(1));
    due.is("print(4096, 0)", x.print(4096, 0), Due.fault(1));
    due.is("print(0, 0)", x.print(0, 0), Due.fault(4));
    Due.put(x, 20, 192, 193, 223, 227);
    for (int at = 20; at < 24; at++) {
      due.is("print(" + at + ", 5)", x.print(at, 5), Due.fault(4));
    }
    due.is("told(0) behind faults without a STEP", x.told(0), 9);
    due.is("told(4)", x.told(4), 7);
    due.is("told(5)", x.told(5), 4);
    Due.put(x, 4094, 224, 65);
    due.is("print to the end of MEMORY", x.print(4094, 5), Due.fault(1));
    due.is("what was GIVEN stays", x.at(6), 65);
    due.is("told(0) with the STEP of the fault", x.told(0), 11);
  }

  private static void wide() {
    GlulxStrings x = new GlulxStrings();
    x.system(2, 0);
    Due.put(x, 10, Due.join(Due.b(226, 9, 9, 9), Due.four(-1, 0x10000, 0)));
    due.is("print(10, 2)", x.print(10, 2), Due.HELD);
    due.is("job(0, 0)", x.job(0, 0), 2);
    due.is("job(0, 1)", x.job(0, 1), 22);
    due.is("job(0, 2)", x.job(0, 2), 0);
    due.is("resume(1)", x.resume(1), 0);
    due.out(x, "a WIDE string", -1, 0x10000);
    Due.put(x, 4086, Due.join(Due.b(226, 9, 9, 9), Due.four(7), Due.b(0, 0)));
    due.is("print to the end of MEMORY", x.print(4086, 9), Due.fault(1));
    Due.put(x, 4093, 226, 0, 0);
    due.is("print(4093, 0)", x.print(4093, 0), Due.HELD);
    due.is("job(0, 1)", x.job(0, 1), 4097);
    due.is("resume(1)", x.resume(1), Due.fault(1));
  }

  private static void number() {
    GlulxStrings x = new GlulxStrings();
    x.system(2, 0);
    due.is("number(5, -1)", x.number(5, -1), Due.BAD);
    due.is("number(5, 100001)", x.number(5, 100001), Due.BAD);
    int[] numbers = {0, 7, 10, -1, 100, -90, Integer.MAX_VALUE, Integer.MIN_VALUE};
    for (int v : numbers) {
      String digits = Integer.toString(v);
      x.clear();
      due.is("number(" + v + ")", x.number(v, digits.length() + 1), digits.length());
      due.out(x, "number(" + v + ")", digits.chars().toArray());
    }
    due.is("number(-42, 2)", x.number(-42, 2), Due.HELD);
    due.is("number with JOBS", x.number(1, 2), Due.NO);
    due.is("job(0, 0)", x.job(0, 0), 4);
    due.is("job(0, 1)", x.job(0, 1), -42);
    due.is("job(0, 2)", x.job(0, 2), 2);
    due.is("job(0, 4)", x.job(0, 4), 0);
    due.is("resume(1)", x.resume(1), Due.HELD);
    due.is("resume(1)", x.resume(1), 0);
  }

  /** A tree at 100 whose ROOT at 112 has END for a bit 0, and behind it the node for a bit 1. */
  private static GlulxStrings withNode(int... node) {
    GlulxStrings x = new GlulxStrings();
    x.system(2, 0);
    int[] head = Due.four(100, 0, 112);
    Due.put(x, 100, Due.join(head, Due.b(0), Due.four(121, 122), Due.b(1), node));
    x.table(100);
    return x;
  }

  private static void packed() {
    GlulxStrings x = withNode(2, 88);
    // Eight times a bit 1, then 0.
    Due.put(x, 500, 225, 255, 0);
    due.is("print(500, 15)", x.print(500, 15), Due.HELD);
    due.is("job(0, 1) behind eight bits", x.job(0, 1), 502);
    due.is("job(0, 2) behind eight bits", x.job(0, 2), 0);
    due.is("job(0, 4) ahead of the last sign", x.job(0, 4), 122);
    due.is("resume(1)", x.resume(1), Due.HELD);
    due.is("job(0, 4) at the ROOT", x.job(0, 4), Due.NONE);
    due.is("resume(2)", x.resume(2), 0);
    due.is("told(12)", x.told(12), 8);
    Due.put(x, 4094, 225, 255);
    due.is("bits behind MEMORY", x.print(4094, 100), Due.fault(1));
    due.is("told(12)", x.told(12), 16);
    // A ROOT that is no BRANCH takes no bits.
    Due.put(x, 112, 1);
    Due.put(x, 4095, 225);
    due.is("END as the ROOT", x.print(4095, 1), 0);
    Due.put(x, 112, 2, 0);
    due.is("a SIGN as the ROOT", x.print(4095, 3), Due.HELD);
    due.is("job(0, 1)", x.job(0, 1), 4096);
    due.is("stop()", x.stop(), 1);
    due.is("told(12)", x.told(12), 19);
    due.is("at(18)", x.at(18), 0);
    // A tree whose head lies outside but for its ROOT's address.
    Due.put(x, 0, Due.four(4));
    Due.put(x, 4, 1);
    x.table(-8);
    due.is("a tree at -8", x.print(4095, 5), 0);
    x.table(-9);
    due.is("a tree at -9", x.print(4095, 5), Due.fault(1));
    x.table(4085);
    due.is("a tree at 4085", x.print(4095, 5), Due.fault(1));
  }

  private static void nodes() {
    GlulxStrings x = withNode(3, 65, 66, 0);
    Due.put(x, 500, 225, 5);
    due.is("print(500, 2)", x.print(500, 2), Due.HELD);
    due.is("jobs()", x.jobs(), 2);
    due.is("job(1, 0)", x.job(1, 0), 1);
    due.is("job(1, 1)", x.job(1, 1), 123);
    due.is("job(0, 4)", x.job(0, 4), Due.NONE);
    due.is("resume(3)", x.resume(3), Due.HELD);
    due.is("resume(2)", x.resume(2), 0);
    due.is("told(0)", x.told(0), 7);
    due.out(x, "a node 3", 65, 66);
    x = withNode(Due.join(Due.b(4), Due.four(-7)));
    Due.put(x, 500, 225, 1);
    due.is("a node 4", x.print(500, 9), 1);
    due.out(x, "a node 4", -7);
    x = withNode(Due.join(Due.b(5), Due.four(70000, -1, 0)));
    Due.put(x, 500, 225, 1);
    due.is("a node 5", x.print(500, 2), Due.HELD);
    due.is("job(1, 0)", x.job(1, 0), 2);
    due.is("job(1, 1)", x.job(1, 1), 123);
    due.is("resume(9)", x.resume(9), 2);
    due.out(x, "a node 5", 70000, -1);
    x = withNode(2, 0);
    Due.put(x, 500, 225, 1);
    due.is("a node 2 of 0", x.print(500, 9), 1);
    due.out(x, "a node 2 of 0", 0);
  }

  private static void things() {
    GlulxStrings x = withNode(Due.join(Due.b(8), Due.four(600)));
    Due.put(x, 500, 225, 1);
    Due.put(x, 600, 224, 90, 0);
    due.is("a node 8 of a string", x.print(500, 9), 1);
    Due.put(x, 600, 225, 0);
    due.is("a node 8 of a PACKED string", x.print(500, 2), Due.HELD);
    due.is("job(1, 0)", x.job(1, 0), 3);
    due.is("job(1, 1)", x.job(1, 1), 601);
    due.is("resume(4)", x.resume(4), 0);
    x = withNode(Due.join(Due.b(9), Due.four(700)));
    Due.put(x, 500, 225, 1);
    Due.put(x, 700, Due.four(600));
    Due.put(x, 600, Due.join(Due.b(226, 0, 0, 0), Due.four(300, 0)));
    due.is("a node 9 of a string", x.print(500, 9), 1);
    due.out(x, "a node 9", 300);
    // A function that tells its first two locals.
    x = withNode(Due.join(Due.b(10), Due.four(600, 2, 11, -12)));
    Due.put(x, 500, 225, 1);
    Due.put(x, 600, 193, 3, 1, 3, 0, 1, 3, 1, 1, 3, 2, 0, 1, 77);
    due.is("a node 10 of a FUNCTION", x.print(500, 9), 3);
    due.out(x, "a node 10", 11, -12, 0);
    due.is("told(6)", x.told(6), 77);
    Due.put(x, 122, 11);
    Due.put(x, 123, Due.four(700));
    Due.put(x, 700, Due.four(600));
    Due.put(x, 600, 192);
    x.clear();
    due.is("a node 11 of a FUNCTION", x.print(500, 9), 3);
    due.out(x, "a node 11", 2, 11, -12);
    Due.put(x, 600, 224, 33, 0);
    x.clear();
    due.is("a node 11 of a string", x.print(500, 9), 1);
    due.out(x, "a node 11 of a string", 33);
    // None and four arguments, then a node 8 behind them.
    x = withNode(Due.join(Due.b(10), Due.four(600, 4, 5, 6, 7, 8)));
    Due.put(x, 500, 225, 1);
    Due.put(x, 600, 192, 5, 1, 3, 0, 1, 3, 4, 0, 0);
    due.is("a node 10 of four", x.print(500, 9), 2);
    due.out(x, "a node 10 of four", 4, 8);
    Due.put(x, 127, Due.four(0));
    x.clear();
    due.is("a node 10 of none", x.print(500, 9), 2);
    due.out(x, "a node 10 of none", 0, 0);
    Due.put(x, 127, Due.four(3));
    x.print(500, 9);
    Due.put(x, 122, 8);
    x.clear();
    due.is("a node 8 behind one of three", x.print(500, 9), 2);
    due.out(x, "a node 8 behind one of three", 0, 0);
    x = withNode(Due.join(Due.b(8), Due.four(600)));
    Due.put(x, 500, 225, 1);
    Due.put(x, 600, 192, 1, 1, 3, 0, 0, 0);
    due.is("a node 8 of a FUNCTION", x.print(500, 9), 1);
    due.out(x, "a node 8 of a FUNCTION", 0);
  }

  private static void packedFaults() {
    GlulxStrings x = withNode(Due.join(Due.b(10), Due.four(600, 5)));
    Due.put(x, 500, 225, 1);
    due.is("five ARGUMENTS", x.print(500, 9), Due.fault(5));
    Due.put(x, 127, Due.four(-1));
    due.is("-1 ARGUMENTS", x.print(500, 9), Due.fault(5));
    Due.put(x, 123, Due.four(-1));
    due.is("-1 ARGUMENTS for a THING outside", x.print(500, 9), Due.fault(5));
    Due.put(x, 122, 11);
    due.is("its address outside, and -1 ARGUMENTS", x.print(500, 9), Due.fault(1));
    Due.put(x, 127, Due.four(0));
    due.is("its address outside", x.print(500, 9), Due.fault(1));
    Due.put(x, 122, 8);
    due.is("a THING outside", x.print(500, 9), Due.fault(1));
    Due.put(x, 123, Due.four(600));
    due.is("no THING", x.print(500, 9), Due.fault(4));
    Due.put(x, 600, 193, 9);
    due.is("nine LOCALS", x.print(500, 9), Due.fault(4));
    for (int kind : new int[] {6, 7, 12, 192, 224, 255}) {
      Due.put(x, 122, kind);
      due.is("a node " + kind, x.print(500, 9), Due.fault(3));
    }
    Due.put(x, 117, Due.four(4096));
    due.is("a node outside", x.print(500, 9), Due.fault(1));
    Due.put(x, 117, Due.four(-1));
    due.is("a node at -1", x.print(500, 1), Due.HELD);
    due.is("job(0, 4) of a node at -1", x.job(0, 4), -1);
    due.is("resume(1)", x.resume(1), Due.fault(1));
    // A branch's node that the bit does not ask for may lie outside.
    Due.put(x, 108, Due.four(4091));
    Due.put(x, 4091, Due.join(Due.b(0), Due.four(121)));
    Due.put(x, 500, 225, 2);
    due.is("bit 0 of a branch at the end of MEMORY", x.print(500, 9), 0);
    Due.put(x, 500, 225, 1);
    due.is("bit 1 of a branch at the end of MEMORY", x.print(500, 9), Due.fault(1));
    x.table(0);
    due.is("no TREE", x.print(500, 1), Due.fault(2));
    due.is("no TREE, no STEP", x.print(500, 0), Due.HELD);
    due.is("resume(1)", x.resume(1), Due.fault(2));
    due.is("told(5)", x.told(5), 2);
    due.is("jobs()", x.jobs(), 0);
  }

  private static void outFull() {
    GlulxStrings x = withNode(2, 65);
    Due.put(x, 112, 2, 66);
    Due.put(x, 500, 225);
    due.is("1000 SIGNS", x.print(500, 1000), Due.HELD);
    due.is("the 1001st SIGN", x.resume(1), Due.fault(9));
    due.is("told(0)", x.told(0), 1001);
    due.is("told(1)", x.told(1), 1000);
    due.is("at(999)", x.at(999), 66);
    due.is("at(1000)", x.at(1000), Due.NONE);
    due.is("at(-1)", x.at(-1), Due.NONE);
    due.is("clear()", x.clear(), 1000);
    due.is("at(0)", x.at(0), Due.NONE);
    due.is("number(5)", x.number(5, 9), 1);
    due.is("told(1)", x.told(1), 1001);
  }

  /** A string within itself goes forty deep. */
  private static void jobsFull() {
    GlulxStrings x = withNode(Due.join(Due.b(8), Due.four(500)));
    Due.put(x, 500, 225, 255);
    due.is("print(500, 78)", x.print(500, 78), Due.HELD);
    due.is("jobs()", x.jobs(), 40);
    due.is("resume(1)", x.resume(1), Due.HELD);
    due.is("resume(1)", x.resume(1), Due.fault(8));
    due.is("told(7)", x.told(7), 40);
    // A THING that is none comes ahead of there being no room for it.
    x.print(500, 79);
    Due.put(x, 123, Due.four(4000));
    due.is("no THING with 40 JOBS", x.resume(1), Due.fault(4));
  }
}
