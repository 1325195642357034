/** Promises 10 and 12 to 17: call, stop, jobs, job, at, clear, told: functions, orders, filters. */
public final class FunctionsTest {
  private static final Due due = new Due("FunctionsTest");
  private static final int CODE = 1000;

  public static void main(String[] args) {
    call();
    arguments();
    values();
    sums();
    jumps();
    bytes();
    calls();
    printing();
    filters();
    orderFaults();
    orderFaultsFirst();
    jobs();
    due.end();
  }

  private static GlulxStrings with(int... function) {
    GlulxStrings x = new GlulxStrings();
    x.system(2, 0);
    Due.put(x, CODE, function);
    return x;
  }

  private static int result(String what, int want, int... function) {
    GlulxStrings x = with(function);
    due.is(what, x.call(CODE, 1000), 0);
    due.is(what + ": told(6)", x.told(6), want);
    return x.told(0);
  }

  private static void fault(String what, int want, int... function) {
    GlulxStrings x = with(function);
    due.is(what, x.call(CODE, 1000), Due.fault(want));
    due.is(what + ": jobs()", x.jobs(), 0);
    due.is(what + ": told(4)", x.told(4), 1);
    due.is(what + ": told(5)", x.told(5), want);
  }

  private static void call() {
    GlulxStrings x = with(193, 0, 0, 1, 5);
    due.is("call(.., -1)", x.call(CODE, -1), Due.BAD);
    due.is("call(.., 100001)", x.call(CODE, 100001), Due.BAD);
    due.is("call(-1, 0)", x.call(-1, 0), Due.fault(1));
    due.is("call(4096, 0)", x.call(4096, 0), Due.fault(1));
    due.is("call(0, 0)", x.call(0, 0), Due.fault(4));
    Due.put(x, 4095, 193);
    due.is("call(4095, 0)", x.call(4095, 0), Due.fault(1));
    Due.put(x, 10, 224, 225, 226);
    for (int at = 10; at < 13; at++) {
      due.is("call(" + at + ", 0)", x.call(at, 0), Due.fault(4));
    }
    Due.put(x, 20, 192, 9, 193, 255, 192, 8);
    due.is("call of nine LOCALS", x.call(20, 0), Due.fault(4));
    due.is("call of 255 LOCALS", x.call(22, 0), Due.fault(4));
    due.is("call of eight LOCALS", x.call(24, 0), Due.HELD);
    due.is("job(0, 3)", x.job(0, 3), 8);
    due.is("call with JOBS", x.call(CODE, 0), Due.NO);
    Due.line(x, 1, 2, 3, 4, 5);
    due.is("call with JOBS and a long LINE", x.call(CODE, 0), Due.BAD);
    due.is("told(14)", x.told(14), 5);
    due.is("stop()", x.stop(), 1);
    due.is("told(0)", x.told(0), 0);
    due.is("told(4)", x.told(4), 9);
    x.piece(0);
    due.is("call(.., 1)", x.call(CODE, 1), 0);
    due.is("told(6)", x.told(6), 5);
    due.is("told(0)", x.told(0), 1);
  }

  private static void arguments() {
    GlulxStrings x = with(193, 6, 17);
    Due.line(x, 7, -8, 9, 10);
    due.is("call with four", x.call(CODE, 0), Due.HELD);
    due.is("told(14)", x.told(14), 0);
    int[] direct = {7, -8, 9, 10, 0, 0, 0};
    for (int i = 0; i < 7; i++) {
      due.is("193: LOCAL " + i, x.job(0, 10 + i), direct[i]);
    }
    x.stop();
    Due.put(x, CODE, 192);
    Due.line(x, 7, -8, 9, 10);
    x.call(CODE, 0);
    int[] counted = {4, 7, -8, 9, 10, 0, 0};
    for (int i = 0; i < 7; i++) {
      due.is("192: LOCAL " + i, x.job(0, 10 + i), counted[i]);
    }
    x.stop();
    Due.put(x, CODE, 192, 2);
    Due.line(x, 7, -8);
    x.call(CODE, 0);
    due.is("192 of two: LOCAL 0", x.job(0, 10), 2);
    due.is("192 of two: LOCAL 1", x.job(0, 11), 7);
    due.is("192 of two: LOCAL 2", x.job(0, 12), 0);
    x.stop();
    Due.put(x, CODE, 192, 0);
    Due.line(x, 7);
    x.call(CODE, 0);
    due.is("192 of none: LOCAL 0", x.job(0, 10), 0);
    due.is("192 of none: job(0, 3)", x.job(0, 3), 0);
    x.stop();
    // Locals of an earlier job do not stay.
    Due.put(x, CODE, 193, 8);
    x.call(CODE, 0);
    for (int i = 0; i < 8; i++) {
      due.is("193 without: LOCAL " + i, x.job(0, 10 + i), 0);
    }
    x.stop();
    Due.line(x, 3);
    due.is("a fault", x.call(0, 1), Due.fault(4));
    due.is("told(14) behind a fault", x.told(14), 0);
  }

  private static void values() {
    result("value 0", 0, 193, 0, 0, 0);
    result("value 1", 127, 193, 0, 0, 1, 127);
    result("value 1 below 0", -128, 193, 0, 0, 1, 128);
    result("value 2", 0x80000001, 193, 0, 0, 2, 128, 0, 0, 1);
    result("value 3", 0, 193, 8, 0, 3, 7);
    fault("value 4", 6, 193, 8, 0, 4, 7);
    fault("value 255", 6, 193, 8, 0, 255, 7);
    fault("no such LOCAL", 6, 193, 7, 0, 3, 7);
    fault("LOCAL 255 as a value", 6, 193, 8, 0, 3, 255);
    result("target nowhere", 0, 193, 1, 7, 1, 5, 255, 0, 3, 0);
    result("target", 5, 193, 1, 7, 1, 5, 0, 0, 3, 0);
    fault("no such target", 6, 193, 1, 7, 1, 5, 1, 0, 3, 0);
    fault("target 254", 6, 193, 1, 7, 1, 5, 254, 0, 3, 0);
  }

  private static void sums() {
    result("8", 12, 193, 1, 8, 1, 5, 1, 7, 0, 0, 3, 0);
    result("8 round", Integer.MIN_VALUE, 193, 1, 8, 2, 127, 255, 255, 255, 1, 1, 0, 0, 3, 0);
    result("9", -2, 193, 1, 9, 1, 5, 1, 7, 0, 0, 3, 0);
    result("9 round", Integer.MAX_VALUE, 193, 1, 9, 2, 128, 0, 0, 0, 1, 1, 0, 0, 3, 0);
  }

  private static void jumps() {
    // Each jump goes over an order that would end with 9.
    result("10 of 0", 1, 193, 0, 10, 0, 0, 3, 0, 1, 9, 0, 1, 1);
    result("10 of 5", 9, 193, 0, 10, 1, 5, 0, 3, 0, 1, 9, 0, 1, 1);
    result("11 of 0", 9, 193, 0, 11, 0, 0, 3, 0, 1, 9, 0, 1, 1);
    result("11 of 5", 1, 193, 0, 11, 1, 5, 0, 3, 0, 1, 9, 0, 1, 1);
    result("12 of -1, 0", 1, 193, 0, 12, 1, 255, 0, 0, 3, 0, 1, 9, 0, 1, 1);
    result("12 of 0, 0", 9, 193, 0, 12, 0, 0, 0, 3, 0, 1, 9, 0, 1, 1);
    result("12 of MIN, MAX", 1, 193, 0, 12, 2, 128, 0, 0, 0, 2, 127, 255, 255, 255, 0, 3, 0, 1, 9, 0, 1, 1);
    result("10 by 0", 9, 193, 0, 10, 0, 0, 0, 0, 1, 9);
    // Counts from 0 to 5 with a jump back.
    int steps = result("a loop", 5, 193, 1, 8, 3, 0, 1, 1, 0, 12, 3, 0, 1, 5, 255, 243, 0, 3, 0);
    due.is("STEPS of a loop", steps, 11);
    GlulxStrings x = with(193, 0, 10, 0, 128, 0);
    due.is("a jump out of MEMORY", x.call(CODE, 1), Due.HELD);
    due.is("job(0, 1)", x.job(0, 1), CODE + 6 - 32768);
    due.is("resume(1)", x.resume(1), Due.fault(1));
    x = with(193, 0, 10, 0, 255, 252);
    due.is("a ring", x.call(CODE, 100000), Due.HELD);
    due.is("told(0)", x.told(0), 100000);
    due.is("stop()", x.stop(), 1);
  }

  private static void bytes() {
    result("13", 193, 193, 1, 13, 2, 0, 0, 3, 232, 0, 0, 3, 0);
    result("14", 0xC1010E02, 193, 1, 14, 2, 0, 0, 3, 232, 0, 0, 3, 0);
    fault("13 at -1", 1, 193, 1, 13, 1, 255, 0);
    fault("14 at 4093", 1, 193, 1, 14, 2, 0, 0, 15, 253, 0);
    fault("14 at -1", 1, 193, 1, 14, 1, 255, 0);
    fault("13 outside, to no LOCAL", 6, 193, 1, 13, 1, 255, 1);
    fault("15 at -1", 7, 193, 0, 15, 1, 255, 0);
    fault("15 at 4096", 7, 193, 0, 15, 2, 0, 0, 16, 0, 0);
    GlulxStrings x = with(193, 0, 15, 1, 100, 2, 1, 2, 3, 255, 17);
    x.border(101);
    due.is("15 below the BORDER", x.call(CODE, 9), Due.fault(7));
    due.is("byteAt(100)", x.byteAt(100), 0);
    x.border(100);
    due.is("15 at the BORDER", x.call(CODE, 9), 0);
    due.is("byteAt(100)", x.byteAt(100), 255);
    // 16 tells the tree, 5 sets it.
    result("5 and 16", -3, 193, 1, 5, 1, 253, 16, 0, 0, 3, 0);
    result("16 to nowhere", 0, 193, 0, 16, 255, 0, 0);
  }

  private static void calls() {
    // The one at 1100 answers what it was called with, less 1.
    GlulxStrings x = with(193, 2, 6, 2, 0, 0, 4, 76, 1, 1, 50, 1, 0, 3, 1);
    Due.put(x, 1100, 193, 1, 9, 3, 0, 1, 1, 0, 0, 3, 0);
    due.is("call, a STEP", x.call(CODE, 1), Due.HELD);
    due.is("jobs()", x.jobs(), 2);
    due.is("job(0, 1)", x.job(0, 1), CODE + 12);
    due.is("job(1, 1)", x.job(1, 1), 1102);
    due.is("job(1, 10)", x.job(1, 10), 50);
    due.is("resume(2)", x.resume(2), Due.HELD);
    due.is("told(6)", x.told(6), 49);
    due.is("job(0, 11)", x.job(0, 11), 49);
    due.is("job(0, 10)", x.job(0, 10), 0);
    due.is("resume(1)", x.resume(1), 0);
    due.is("told(6)", x.told(6), 49);
    due.is("told(7)", x.told(7), 2);
    // By 192, with four.
    x = with(193, 1, 6, 2, 0, 0, 4, 76, 4, 1, 1, 1, 2, 1, 3, 1, 4, 255, 0, 3, 0);
    Due.put(x, 1100, 192, 8, 0, 1, 9);
    x.call(CODE, 1);
    int[] want = {4, 1, 2, 3, 4, 0, 0, 0};
    for (int i = 0; i < 8; i++) {
      due.is("LOCAL " + i, x.job(1, 10 + i), want[i]);
    }
    due.is("resume(9)", x.resume(9), 0);
    due.is("a RESULT to nowhere", x.told(6), 0);
    fault("6 of a string", 4, 193, 0, 6, 2, 0, 0, 3, 241, 0, 255, 224);
    fault("6 outside", 1, 193, 0, 6, 1, 255, 0, 255);
    fault("6 of five", 6, 193, 0, 6, 1, 255, 5, 0, 0, 0, 0, 0, 255);
    fault("6 to no LOCAL", 6, 193, 0, 6, 1, 255, 0, 0);
    fault("6 of itself", 8, 193, 0, 6, 2, 0, 0, 3, 232, 0, 255);
  }

  private static void printing() {
    GlulxStrings x = with(193, 0, 1, 1, 65, 2, 2, 0, 0, 4, 76, 3, 1, 246, 1, 1, 255, 0, 0);
    Due.put(x, 1100, 224, 66, 67, 0);
    due.is("a function that prints", x.call(CODE, 100), 7);
    due.out(x, "a function that prints", 65, 66, 67, 45, 49, 48, -1);
    due.is("told(0)", x.told(0), 12);
    x.clear();
    due.is("call, two STEPS", x.call(CODE, 2), Due.HELD);
    due.is("job(1, 0)", x.job(1, 0), 1);
    due.is("resume(4)", x.resume(4), Due.HELD);
    due.is("job(1, 0)", x.job(1, 0), 4);
    due.is("job(1, 1)", x.job(1, 1), -10);
    due.is("job(1, 2)", x.job(1, 2), 0);
    due.is("told(12)", x.told(12), 3);
    due.is("resume(9)", x.resume(9), 4);
    fault("2 of a FUNCTION", 4, 193, 0, 2, 2, 0, 0, 3, 232);
    fault("2 outside", 1, 193, 0, 2, 1, 255);
    // 17 ends all, whatever lies below; no RESULT.
    x = with(193, 0, 6, 2, 0, 0, 4, 76, 0, 255, 1, 1, 65, 0, 1, 1);
    Due.put(x, 1100, 193, 0, 1, 1, 88, 17);
    due.is("17", x.call(CODE, 100), 1);
    due.is("told(6)", x.told(6), 0);
    due.is("told(4)", x.told(4), 0);
    due.out(x, "17", 88);
    // 4 with a SYSTEM that is none.
    x = with(193, 0, 4, 1, 3, 1, 7, 17);
    due.is("4", x.call(CODE, 100), 0);
    due.is("told(8)", x.told(8), 0);
    due.is("told(9)", x.told(9), 7);
    x = with(193, 0, 4, 1, 255, 0, 17);
    x.call(CODE, 100);
    due.is("told(8)", x.told(8), 0);
    x = with(193, 0, 4, 1, 1, 1, 254, 17);
    x.call(CODE, 100);
    due.is("told(8)", x.told(8), 1);
    due.is("told(9)", x.told(9), -2);
  }

  private static void filters() {
    GlulxStrings x = new GlulxStrings();
    Due.put(x, 500, 224, 65, 66, 0);
    due.is("nowhere", x.print(500, 9), 0);
    due.is("told(3)", x.told(3), 2);
    x.system(1, 600);
    due.is("a filter that is none", x.print(500, 9), Due.fault(4));
    due.is("told(2)", x.told(2), 0);
    Due.put(x, 600, 224);
    due.is("a filter that is a string", x.print(500, 9), Due.fault(4));
    x.system(1, -1);
    due.is("a filter outside", x.print(500, 9), Due.fault(1));
    x.system(1, 600);
    Due.put(x, 600, 192, 9);
    due.is("a filter of nine LOCALS", x.print(500, 9), Due.fault(4));
    due.is("told(2)", x.told(2), 0);
    // Keeps the number of the arguments and the sign in memory.
    Due.put(x, 600, 192, 2, 15, 2, 0, 0, 8, 0, 3, 0, 15, 2, 0, 0, 8, 1, 3, 1, 0, 3, 1);
    due.is("a filter", x.print(500, 99), 0);
    due.is("told(2)", x.told(2), 2);
    due.is("byteAt(2048)", x.byteAt(2048), 1);
    due.is("byteAt(2049)", x.byteAt(2049), 66);
    due.is("told(6)", x.told(6), 66);
    // A filter that gives a sign is gone into again.
    Due.put(x, 600, 193, 1, 1, 3, 0);
    due.is("a filter in itself", x.print(500, 99), Due.fault(8));
    due.is("told(7)", x.told(7), 40);
    due.is("told(2)", x.told(2), 2 + 39);
    due.is("number by a filter", x.number(-5, 1), Due.HELD);
    due.is("jobs()", x.jobs(), 2);
    due.is("job(0, 2)", x.job(0, 2), 1);
    due.is("job(1, 10)", x.job(1, 10), 45);
  }

  private static void orderFaults() {
    for (int order : new int[] {18, 19, 128, 255}) {
      fault("ORDER " + order, 6, 193, 0, order);
    }
    GlulxStrings x = new GlulxStrings();
    Due.put(x, 4093, 193, 0, 0);
    due.is("an ORDER beyond MEMORY", x.call(4093, 9), Due.fault(1));
    Due.put(x, 4094, 193, 0);
    due.is("no ORDER in MEMORY", x.call(4094, 9), Due.fault(1));
    Due.put(x, 4090, 193, 0, 0, 2, 0, 0);
    due.is("a FOUR beyond MEMORY", x.call(4090, 9), Due.fault(1));
    due.is("told(0)", x.told(0), 3);
    due.is("told(6)", x.told(6), 0);
    // The byte of 15 is left as it was when the rest of the order can't be read.
    Due.put(x, 4088, 193, 0, 15, 1, 50, 1);
    Due.put(x, 4094, 9, 15);
    due.is("15, then half an order", x.call(4088, 9), Due.fault(1));
    due.is("byteAt(50)", x.byteAt(50), 9);
    x.system(2, 0);
    Due.put(x, 4090, 193, 0, 4, 1, 1, 2);
    due.is("4 of half a value", x.call(4090, 9), Due.fault(1));
    due.is("told(8) as it was", x.told(8), 2);
  }

  private static void orderFaultsFirst() {
    GlulxStrings x = new GlulxStrings();
    Due.put(x, 4091, 193, 0, 8, 3, 5);
    due.is("no LOCAL, then the end of MEMORY", x.call(4091, 9), Due.fault(6));
    Due.put(x, 4090, 193, 0, 6, 0, 9, 1);
    due.is("nine values, then the end of MEMORY", x.call(4090, 9), Due.fault(6));
    Due.put(x, 4089, 193, 0, 15, 1, 255, 3, 4);
    due.is("15 outside of no LOCAL", x.call(4089, 9), Due.fault(6));
    Due.put(x, 4089, 193, 0, 10, 0, 9, 17, 0);
    due.is("10 with its distance", x.call(4089, 1), Due.HELD);
    due.is("job(0, 1)", x.job(0, 1), 4095 + 9 * 256 + 17);
  }

  private static void jobs() {
    GlulxStrings x = with(193, 2, 2, 2, 0, 0, 4, 76, 17);
    Due.put(x, 1100, 224, 66, 0);
    Due.line(x, 5, 6);
    due.is("call", x.call(CODE, 1), Due.HELD);
    due.is("jobs()", x.jobs(), 2);
    int[][] want = {{0, CODE + 8, 0, 2, 0}, {1, 1101, 0, 0, 0}};
    for (int k = 0; k < 2; k++) {
      for (int what = 0; what < 5; what++) {
        due.is("job(" + k + ", " + what + ")", x.job(k, what), want[k][what]);
      }
    }
    due.is("job(0, 10)", x.job(0, 10), 5);
    due.is("job(0, 11)", x.job(0, 11), 6);
    due.is("job(0, 12)", x.job(0, 12), 0);
    due.is("job(1, 10)", x.job(1, 10), 0);
    int[] none = {-1, 5, 9, 18, Integer.MAX_VALUE, Integer.MIN_VALUE};
    for (int what : none) {
      due.is("job(0, " + what + ")", x.job(0, what), 0);
    }
    due.is("job(2, 0)", x.job(2, 0), 0);
    due.is("job(2, 1)", x.job(2, 1), 0);
    due.is("job(-1, 1)", x.job(-1, 1), 0);
    due.is("job(MIN, 1)", x.job(Integer.MIN_VALUE, 1), 0);
    due.is("job(MAX, 1)", x.job(Integer.MAX_VALUE, 1), 0);
    due.is("stop()", x.stop(), 2);
    due.is("jobs()", x.jobs(), 0);
    due.is("job(0, 1)", x.job(0, 1), 0);
    due.is("stop()", x.stop(), 0);
    x.number(9, 1);
    for (int what : new int[] {3, 4, 10, 11}) {
      due.is("job(0, " + what + ") of a number where a function was", x.job(0, what), 0);
    }
    x.stop();
    due.is("told(4)", x.told(4), 0);
    due.is("told(7)", x.told(7), 2);
  }
}
