/** The edges of the document's part 3 FUNCTIONS, and of promise 10. */
public final class EdgesOfFunctionsTest extends Edges {
  private static final int OTHER = 2000;

  public static void main(String[] args) {
    begin("EdgesOfFunctionsTest");
    functions();
    code();
    orders();
    moreOrders();
    call();
    end();
  }

  private static void functions() {
    holds("192 or 193; a byte n, how many LOCALS (0 .. 8; else FAULT 4)", EdgesOfFunctionsTest::numberOfLocals);
    holds("by 193 these are in the first LOCALS", EdgesOfFunctionsTest::direct);
    holds("by 192 their number is in the first LOCAL, they in those behind", EdgesOfFunctionsTest::counted);
    holds("the others are 0", EdgesOfFunctionsTest::othersAreZero);
    holds("ARGUMENTS for which there is no LOCAL are lost.", EdgesOfFunctionsTest::lost);
  }

  private static void code() {
    holds("CODE is a row of ORDERS: a byte, then what it needs", EdgesOfFunctionsTest::codeOutside);
    holds("0: it is 0; 1: the next byte, with sign", EdgesOfFunctionsTest::byteValues);
    holds("2: the next FOUR", EdgesOfFunctionsTest::fourValues);
    holds("3: the LOCAL that the next byte tells", EdgesOfFunctionsTest::localValues);
    holds("else FAULT 6.", EdgesOfFunctionsTest::otherValues);
    holds("t: a byte, the LOCAL that something goes to, or 255: nowhere.", EdgesOfFunctionsTest::targets);
    holds("A LOCAL that there is not: FAULT 6.", EdgesOfFunctionsTest::noSuchLocal);
    holds("d: two bytes, with sign: goes on so far behind the ORDER's last byte", EdgesOfFunctionsTest::distances);
    holds("(0: at the next one)", EdgesOfFunctionsTest::distanceZero);
    holds("All of an ORDER is read before it does anything.", EdgesOfFunctionsTest::allIsRead);
  }

  private static void orders() {
    holds("0 v: the function is over, v is its RESULT.", EdgesOfFunctionsTest::over);
    holds("1 v: the SIGN v is GIVEN.", EdgesOfFunctionsTest::given);
    holds("2 v: the string at v (a FUNCTION is none: FAULT 4) is printed.", EdgesOfFunctionsTest::printed);
    holds("3 v: the number v is printed.", EdgesOfFunctionsTest::numbers);
    holds("4 v w: the SYSTEM is v, with w (v not 0 .. 2: it is 0).", EdgesOfFunctionsTest::systems);
    holds("5 v: the TREE lies at v.", EdgesOfFunctionsTest::treeLies);
    holds("6 v, a byte n (0 .. 4; else FAULT 6), n VALUES, t", EdgesOfFunctionsTest::numberOfValues);
    holds("the FUNCTION at v (a string is none: FAULT 4) is CALLED with these", EdgesOfFunctionsTest::noFunction);
    holds("its RESULT goes to t.", EdgesOfFunctionsTest::resultGoes);
  }

  private static void moreOrders() {
    holds("7 v t: v goes to t.", EdgesOfFunctionsTest::goesTo);
    holds("8 v w t: the sum, 9 v w t: v less w (both modulo 2^32, with sign).", EdgesOfFunctionsTest::sums);
    holds("10 v d: goes on there, if v is 0; 11 v d: if it is not; 12 v w d: if v is less than w.",
        EdgesOfFunctionsTest::conditions);
    holds("13 v t: the byte at v.", EdgesOfFunctionsTest::byteOrder);
    holds("14 v t: the FOUR at v.", EdgesOfFunctionsTest::fourOrder);
    holds("15 v w: the byte at v becomes the lowest eight bits of w", EdgesOfFunctionsTest::lowestBits);
    holds("(FAULT 7: v is below the BORDER, or outside of MEMORY)", EdgesOfFunctionsTest::writesOutside);
    holds("16 t: where the TREE lies.", EdgesOfFunctionsTest::whereTreeLies);
    holds("17: all that is under way is over.", EdgesOfFunctionsTest::allIsOver);
    holds("Others: FAULT 6.", EdgesOfFunctionsTest::otherOrders);
  }

  private static void call() {
    holds("The FUNCTION at an address is CALLED (FAULT 1, 4 likewise)", EdgesOfFunctionsTest::callFaults);
    holds("with the LINE (4 at most), which is empty then.", EdgesOfFunctionsTest::callWithLine);
    holds("BAD; also a longer LINE.", EdgesOfFunctionsTest::longerLine);
    holds("BAD; also a longer LINE. NO.", EdgesOfFunctionsTest::callBadNo);
  }

  // ---- functions

  private static void numberOfLocals() {
    for (int kind = 192; kind <= 193; kind++) {
      for (int n = 0; n < 256; n++) {
        GlulxStrings x = toOut();
        put(x, CODE, b(kind, n));
        is(kind + " of " + n, x.call(CODE, 0), n <= 8 ? HELD : fault(4));
        if (n <= 8) {
          is("job(0, 3)", x.job(0, 3), n);
        }
      }
      GlulxStrings x = toOut();
      put(x, 4095, b(kind));
      is(kind + " without n", x.call(4095, 0), fault(1));
      put(x, 4094, b(kind, 8));
      is(kind + " without code", x.call(4094, 0), HELD);
      is("resume(1)", x.resume(1), fault(1));
    }
  }

  /** The LOCALS of a function that is called with so many signs: 21 and on. */
  private static void locals(int kind, int n, int signs, int... want) {
    GlulxStrings x = toOut();
    put(x, CODE, b(kind, n));
    for (int i = 1; i <= signs; i++) {
      x.sign(20 + i);
    }
    is(kind + " of " + n + " with " + signs, x.call(CODE, 0), HELD);
    for (int i = 0; i < 9; i++) {
      is("LOCAL " + i, x.job(0, 10 + i), i < want.length ? want[i] : 0);
    }
  }

  private static void direct() {
    locals(193, 8, 0);
    locals(193, 8, 1, 21);
    locals(193, 8, 4, 21, 22, 23, 24);
    locals(193, 4, 4, 21, 22, 23, 24);
  }

  private static void counted() {
    locals(192, 8, 0, 0);
    locals(192, 8, 1, 1, 21);
    locals(192, 8, 4, 4, 21, 22, 23, 24);
    locals(192, 5, 4, 4, 21, 22, 23, 24);
  }

  private static void othersAreZero() {
    GlulxStrings x = withCode(8, order(7, value(-1), to(7)), order(7, value(-1), to(3)), OVER);
    for (int time = 0; time < 2; time++) {
      line(x, 1, 2);
      x.call(CODE, 0);
      int[] want = {1, 2, 0, 0, 0, 0, 0, 0};
      for (int i = 0; i < 8; i++) {
        is("LOCAL " + i, x.job(0, 10 + i), want[i]);
      }
      is("resume(2)", x.resume(2), HELD);
      is("LOCAL 7", x.job(0, 17), -1);
      x.stop();
      // What was lost, or is left of more ARGUMENTS, does not come back.
      line(x, 1, 2, 3, 4);
      x.call(CODE, 0);
      x.stop();
    }
    put(x, CODE, function(193, 4, order(6, value(OTHER), b(1), value(9), NOWHERE), OVER));
    put(x, OTHER, function(193, 8, order(1, value(7)), OVER));
    line(x, 1, 2, 3, 4);
    x.call(CODE, 1);
    for (int i = 0; i < 8; i++) {
      is("by ORDER 6: LOCAL " + i, x.job(1, 10 + i), i == 0 ? 9 : 0);
    }
    x.stop();
    x.system(1, OTHER);
    line(x, 1, 2, 3, 4);
    x.call(CODE, 2);
    for (int i = 0; i < 8; i++) {
      is("by a filter: LOCAL " + i, x.job(2, 10 + i), i == 0 ? 7 : 0);
    }
  }

  private static void lost() {
    locals(193, 0, 4);
    locals(193, 1, 4, 21);
    locals(193, 3, 4, 21, 22, 23);
    locals(192, 0, 4);
    locals(192, 1, 4, 4);
    locals(192, 4, 4, 4, 21, 22, 23);
    // By ORDER 6, and by a filter, too.
    GlulxStrings x = withCode(1, order(6, value(OTHER), b(2), value(5), value(6), NOWHERE), OVER);
    put(x, OTHER, function(192, 0, order(0, b(0))));
    is("ORDER 6", x.call(CODE, 1), HELD);
    is("job(1, 3)", x.job(1, 3), 0);
    is("resume(9)", x.resume(9), 0);
    x.system(1, OTHER);
    is("number(5, 1)", x.number(5, 1), HELD);
    is("job(1, 10)", x.job(1, 10), 0);
    is("resume(9)", x.resume(9), 0);
  }

  // ---- code

  private static void codeOutside() {
    int[][] orders = {
      order(0, value(5)), order(1, b(1, 5)), order(4, b(0), local(0)), order(7, b(0), to(0)), order(8, b(0), b(0), to(0)),
      order(10, b(0), by(0)), order(12, b(0), b(0), by(0)), order(15, value(0), value(0)), order(16, to(0)),
      order(6, value(CODE), b(1), b(0), NOWHERE),
    };
    for (int[] code : orders) {
      for (int n = 0; n <= code.length; n++) {
        GlulxStrings x = toOut();
        put(x, CODE, b(193, 0, 17));
        put(x, 4094 - n, b(193, 1), java.util.Arrays.copyOf(code, n));
        boolean whole = n == code.length;
        int got = x.call(4094 - n, 1);
        is("ORDER " + code[0] + " of " + n + " bytes", got == fault(1) ? 1 : 0, whole ? 0 : 1);
      }
    }
  }

  private static void byteValues() {
    result("0", 0, order(0, b(0)));
    for (int v : new int[] {0, 1, 127, -128, -1}) {
      result("1: " + v, v, order(0, b(1, v & 255)));
    }
  }

  private static void fourValues() {
    for (int v : new int[] {0, 1, -1, 128, 255, MIN, MAX}) {
      result("2: " + v, v, order(0, value(v)));
    }
  }

  private static void localValues() {
    for (int i = 0; i < 8; i++) {
      result("3: " + i, 70 + i, order(7, value(70 + i), to(i)), order(0, local(i)));
    }
  }

  private static void otherValues() {
    for (int mode = 4; mode < 256; mode++) {
      faults("a VALUE " + mode, 6, 8, order(0, b(mode, 0, 0, 0, 0)));
    }
    faults("w of 4", 6, 8, order(4, b(0), b(4, 0)));
    faults("an ARGUMENT of 4", 6, 8, order(6, value(CODE), b(1), b(4, 0), NOWHERE));
    GlulxStrings x = toOut();
    put(x, 4092, b(193, 0, 0, 4));
    is("a VALUE 4 at the end of MEMORY", x.call(4092, 1), fault(6));
  }

  private static void targets() {
    for (int i = 0; i < 8; i++) {
      GlulxStrings x = withCode(8, order(7, value(MIN), to(i)), OVER);
      x.call(CODE, 1);
      for (int k = 0; k < 8; k++) {
        is("7 to " + i + ": LOCAL " + k, x.job(0, 10 + k), k == i ? MIN : 0);
      }
    }
    for (int locals = 0; locals <= 8; locals += 8) {
      GlulxStrings x = withCode(locals, order(7, value(5), NOWHERE), OVER);
      is("7 to nowhere", x.call(CODE, 1), HELD);
      for (int k = 0; k < 8; k++) {
        is("7 to nowhere: LOCAL " + k, x.job(0, 10 + k), 0);
      }
    }
  }

  private static void noSuchLocal() {
    for (int n = 0; n <= 8; n++) {
      for (int i : new int[] {n, 8, 9, 128, 254}) {
        faults("LOCAL " + i + " of " + n + " as a value", 6, n, order(0, local(i)));
        faults("LOCAL " + i + " of " + n + " as a target", 6, n, order(7, b(0), to(i)));
      }
      faults("LOCAL 255 of " + n + " as a value", 6, n, order(0, local(255)));
    }
    faults("8 to no LOCAL", 6, 1, order(8, b(0), b(0), to(1)));
    faults("13 to no LOCAL", 6, 1, order(13, b(0), to(1)));
    faults("16 to no LOCAL", 6, 1, order(16, to(1)));
    faults("6 to no LOCAL", 6, 1, order(6, value(CODE), b(0), to(1)));
  }

  private static void distances() {
    int behind = CODE + 2 + 4;
    for (int d : new int[] {0, 1, 127, 128, 255, 256, 32767, -1, -4, -128, -129, -256, -32768}) {
      GlulxStrings x = withCode(0, order(10, b(0), by(d)));
      is("10 by " + d, x.call(CODE, 1), HELD);
      is("job(0, 1)", x.job(0, 1), behind + d);
    }
    for (int d : new int[] {32767, -32768}) {
      GlulxStrings x = withCode(0, order(10, b(0), by(d)));
      x.call(CODE, 1);
      is("behind 10 by " + d, x.resume(1), fault(1));
    }
    GlulxStrings x = withCode(0, order(10, b(0), by(4095 - behind)));
    put(x, 4095, OVER);
    is("10 to 4095", x.call(CODE, 2), 0);
    x = withCode(0, order(10, b(0), by(-behind)));
    put(x, 0, OVER);
    is("10 to 0", x.call(CODE, 2), 0);
    x = withCode(0, order(10, b(0), by(-behind - 1)));
    is("10 to -1", x.call(CODE, 2), fault(1));
    x = withCode(0, order(10, b(0), by(-4)));
    is("10 to itself", x.call(CODE, 100000), HELD);
    is("job(0, 1)", x.job(0, 1), CODE + 2);
  }

  private static void distanceZero() {
    result("10 by 0", 9, order(10, b(0), by(0)), order(0, b(1, 9)));
    result("11 by 0", 9, order(11, b(1, 1), by(0)), order(0, b(1, 9)));
    result("12 by 0", 9, order(12, b(0), b(1, 1), by(0)), order(0, b(1, 9)));
  }

  private static void allIsRead() {
    GlulxStrings x = toOut();
    put(x, 4091, b(193, 0, 15, 0, 1));
    is("15 without its w", x.call(4091, 1), fault(1));
    is("byteAt(0)", x.byteAt(0), 0);
    put(x, 4091, b(193, 0, 4, 0, 1));
    is("4 without its w", x.call(4091, 1), fault(1));
    is("told(8)", x.told(8), 2);
    put(x, 4090, b(193, 0, 10, 1, 1, 0));
    is("10 that does not go, without its d", x.call(4090, 1), fault(1));
    put(x, 4089, b(193, 0, 6, 1, 255, 0));
    put(x, 4095, b(4));
    is("6 outside, to no LOCAL", x.call(4089, 1), fault(6));
    faults("13 outside, to no LOCAL", 6, 1, order(13, value(-1), to(1)));
    faults("14 outside, to no LOCAL", 6, 1, order(14, value(-1), to(1)));
    faults("15 outside, with no LOCAL", 6, 1, order(15, value(-1), local(1)));
    faults("6 of no FUNCTION, to no LOCAL", 6, 1, order(6, value(0), b(0), to(1)));
    // A function's own next order may be changed by the one ahead of it.
    x = withCode(0, order(15, value(CODE + 10), b(1, 17)), order(0, b(1, 9)));
    is("15 into the next ORDER", x.call(CODE, 2), 0);
    is("told(6)", x.told(6), 0);
  }

  // ---- orders

  private static void over() {
    for (int v : new int[] {0, -1, BAD, MIN, MAX}) {
      GlulxStrings x = withCode(0, order(0, value(v)));
      is("0 of " + v, x.call(CODE, 1), 0);
      is("told(6)", x.told(6), v);
      is("jobs()", x.jobs(), 0);
    }
  }

  private static void given() {
    for (int c : new int[] {0, -1, 256, MIN, MAX}) {
      GlulxStrings x = withCode(0, order(1, value(c)), OVER);
      is("1 of " + c, x.call(CODE, 9), 1);
      out(x, "1 of " + c, c);
    }
  }

  private static void printed() {
    for (int kind = 0; kind < 256; kind++) {
      GlulxStrings x = withCode(0, order(2, value(OTHER)), OVER);
      put(x, OTHER, b(kind, 0, 0, 0, 0, 0, 0, 0));
      is("2 of " + kind, x.call(CODE, 1), kind >= 224 && kind <= 226 ? HELD : fault(4));
    }
    for (int at : new int[] {-1, 4096, MIN, MAX}) {
      faults("2 at " + at, 1, 0, order(2, value(at)));
    }
    GlulxStrings x = withCode(0, order(2, value(OTHER)), OVER);
    put(x, OTHER, b(224, 0));
    is("2 of an empty one", x.call(CODE, 3), 0);
    is("told(0)", x.told(0), 3);
  }

  private static void numbers() {
    for (int v : new int[] {0, 9, 10, -1, MIN, MAX}) {
      GlulxStrings x = withCode(0, order(3, value(v)), OVER);
      int[] digits = Integer.toString(v).chars().toArray();
      is("3 of " + v, x.call(CODE, digits.length + 3), digits.length);
      out(x, "3 of " + v, digits);
      is("told(0)", x.told(0), digits.length + 3);
    }
  }

  private static void systems() {
    for (int v : new int[] {-1, 0, 1, 2, 3, 256, 258, MIN, MAX}) {
      GlulxStrings x = withCode(0, order(4, value(v), value(-7)), OVER);
      is("4 of " + v, x.call(CODE, 9), 0);
      is("told(8)", x.told(8), v >= 0 && v <= 2 ? v : 0);
      is("told(9)", x.told(9), -7);
    }
  }

  private static void treeLies() {
    for (int v : new int[] {0, 1, -1, 4096, MIN, MAX}) {
      GlulxStrings x = withTree(END);
      put(x, CODE, function(193, 0, order(5, value(v)), OVER));
      is("5 of " + v, x.call(CODE, 9), 0);
      is("told(10)", x.told(10), v);
    }
    for (int v : new int[] {0, 4096, MIN, MAX}) {
      GlulxStrings x = withTree(END);
      put(x, STRING, b(225));
      put(x, CODE, function(193, 0, order(5, value(v)), order(2, value(STRING)), OVER));
      is("2 behind 5 of " + v, x.call(CODE, 9), fault(v == 0 ? 2 : 1));
      is("told(10)", x.told(10), v);
    }
    GlulxStrings x = withTree(END);
    x.table(0);
    put(x, STRING, b(225));
    put(x, CODE, function(193, 0, order(5, value(TREE)), order(2, value(STRING)), OVER));
    is("2 behind 5", x.call(CODE, 9), 0);
  }

  private static void numberOfValues() {
    for (int n = 0; n < 256; n++) {
      int[] values = row(n <= 4 ? n : 8, 0);
      GlulxStrings x = withCode(0, order(6, value(OTHER), b(n), values, NOWHERE), OVER);
      put(x, OTHER, function(192, 1, OVER));
      is("6 of " + n, x.call(CODE, 1), n <= 4 ? HELD : fault(6));
      is("LOCAL 0", x.job(1, 10), n <= 4 ? n : 0);
    }
    GlulxStrings x = withCode(2, order(6, value(OTHER), b(4), b(1, 255), b(0), value(MIN), local(1), NOWHERE), OVER);
    put(x, OTHER, function(193, 4, OVER));
    line(x, 3, 4);
    x.call(CODE, 1);
    int[] want = {-1, 0, MIN, 4};
    for (int i = 0; i < 4; i++) {
      is("LOCAL " + i, x.job(1, 10 + i), want[i]);
    }
  }

  private static void noFunction() {
    for (int kind = 0; kind < 256; kind++) {
      GlulxStrings x = withCode(0, order(6, value(OTHER), b(0), NOWHERE), OVER);
      put(x, OTHER, b(kind, 0, 0, 0, 0));
      is("6 of " + kind, x.call(CODE, 1), kind == 192 || kind == 193 ? HELD : fault(4));
    }
    for (int at : new int[] {-1, 4096, MIN, MAX}) {
      faults("6 at " + at, 1, 0, order(6, value(at), b(0), NOWHERE));
    }
    GlulxStrings x = withCode(0, order(6, value(4095), b(0), NOWHERE), OVER);
    put(x, 4095, b(193));
    is("6 of a FUNCTION without n", x.call(CODE, 1), fault(1));
    x = withCode(0, order(6, value(OTHER), b(0), NOWHERE), OVER);
    put(x, OTHER, b(193, 9));
    is("6 of a FUNCTION of nine LOCALS", x.call(CODE, 1), fault(4));
  }

  private static void resultGoes() {
    for (int t : new int[] {0, 7, 255}) {
      GlulxStrings x = withCode(8, order(6, value(OTHER), b(0), to(t)), OVER);
      put(x, OTHER, function(193, 8, order(7, value(5), to(0)), order(0, value(MIN))));
      is("6 to " + t, x.call(CODE, 3), HELD);
      is("jobs()", x.jobs(), 1);
      is("told(6)", x.told(6), MIN);
      for (int i = 0; i < 8; i++) {
        is("6 to " + t + ": LOCAL " + i, x.job(0, 10 + i), i == t ? MIN : 0);
      }
    }
  }

  private static void goesTo() {
    for (int v : new int[] {0, -1, MIN, MAX}) {
      result("7 of " + v, v, order(7, value(v), to(7)), order(0, local(7)));
    }
    result("7 of itself", 6, order(7, value(6), to(0)), order(7, local(0), to(0)), order(0, local(0)));
  }

  private static void sums() {
    int[] edges = {0, 1, -1, MIN, MAX, MIN + 1};
    for (int v : edges) {
      for (int w : edges) {
        result("8 of " + v + ", " + w, v + w, order(8, value(v), value(w), to(0)), order(0, local(0)));
        result("9 of " + v + ", " + w, v - w, order(9, value(v), value(w), to(0)), order(0, local(0)));
      }
    }
    result("8 of MAX, 1", MIN, order(8, value(MAX), value(1), to(0)), order(0, local(0)));
    result("9 of MIN, 1", MAX, order(9, value(MIN), value(1), to(0)), order(0, local(0)));
    result("9 of 0, MIN", MIN, order(9, value(0), value(MIN), to(0)), order(0, local(0)));
    result("8 of MIN, MIN", 0, order(8, value(MIN), value(MIN), to(0)), order(0, local(0)));
  }

  /** The order goes over the one behind it, or not. */
  private static void goes(String what, boolean there, int[] order) {
    result(what, there ? 1 : 9, order, order(0, b(1, 9)), order(0, b(1, 1)));
  }

  private static void conditions() {
    int[] edges = {0, 1, -1, MIN, MAX, 256};
    for (int v : edges) {
      goes("10 of " + v, v == 0, order(10, value(v), by(3)));
      goes("11 of " + v, v != 0, order(11, value(v), by(3)));
      for (int w : edges) {
        goes("12 of " + v + ", " + w, v < w, order(12, value(v), value(w), by(3)));
      }
    }
  }

  private static void byteOrder() {
    for (int at : new int[] {-1, 4096, MIN, MAX}) {
      faults("13 at " + at, 1, 1, order(13, value(at), to(0)));
      faults("13 at " + at + " to nowhere", 1, 1, order(13, value(at), NOWHERE));
    }
    for (int at : new int[] {0, 4095}) {
      GlulxStrings x = withCode(1, order(13, value(at), to(0)), OVER);
      put(x, at, b(255));
      x.call(CODE, 1);
      is("13 at " + at, x.job(0, 10), 255);
    }
  }

  private static void fourOrder() {
    for (int at : new int[] {-4, -1, 4093, 4096, MIN, MAX}) {
      faults("14 at " + at, 1, 1, order(14, value(at), to(0)));
      faults("14 at " + at + " to nowhere", 1, 1, order(14, value(at), NOWHERE));
    }
    for (int at : new int[] {0, 4092}) {
      GlulxStrings x = withCode(1, order(14, value(at), to(0)), OVER);
      put(x, at, four(-2));
      x.call(CODE, 1);
      is("14 at " + at, x.job(0, 10), -2);
    }
  }

  private static void lowestBits() {
    for (int w : new int[] {0, 255, 256, 257, -1, MIN, 0x12345678}) {
      GlulxStrings x = withCode(0, order(15, value(OTHER), value(w)), OVER);
      put(x, OTHER - 1, b(7, 7, 7));
      is("15 of " + w, x.call(CODE, 9), 0);
      bytes(x, "15 of " + w, OTHER - 1, b(7, w & 255, 7));
    }
  }

  private static void writesOutside() {
    for (int at : new int[] {-1, 4096, MIN, MAX}) {
      faults("15 at " + at, 7, 0, order(15, value(at), value(1)));
    }
    for (int border : new int[] {0, 2000, 4096}) {
      GlulxStrings x = withCode(1, order(15, local(0), value(1)), OVER);
      x.border(border);
      x.sign(border - 1);
      is("15 below the BORDER at " + border, x.call(CODE, 9), fault(7));
      x.sign(border);
      is("15 at the BORDER at " + border, x.call(CODE, 9), border == 4096 ? fault(7) : 0);
      is("byteAt(" + border + ")", x.byteAt(border), border == 4096 ? NONE : 1);
      is("byteAt(" + (border - 1) + ")", x.byteAt(border - 1), border == 0 ? NONE : 0);
    }
  }

  private static void whereTreeLies() {
    for (int at : new int[] {0, -1, 5, MIN, MAX}) {
      GlulxStrings x = withCode(1, order(16, to(0)), order(16, NOWHERE), OVER);
      x.table(at);
      is("16", x.call(CODE, 2), HELD);
      is("LOCAL 0", x.job(0, 10), at);
    }
    result("16 without a TREE", 0, order(7, value(5), to(0)), order(16, to(0)), order(0, local(0)));
  }

  private static void allIsOver() {
    GlulxStrings x = withCode(1, order(1, b(1, 65)), order(6, value(OTHER), b(0), to(0)), order(1, b(1, 66)));
    put(x, OTHER, function(193, 0, OVER));
    is("17", x.call(CODE, 100), 1);
    is("jobs()", x.jobs(), 0);
    is("told(0)", x.told(0), 3);
    is("told(4)", x.told(4), 0);
    is("told(6)", x.told(6), 0);
    is("resume(1)", x.resume(1), NO);
    x = withCode(0, OVER);
    is("17 alone", x.call(CODE, 1), 0);
    // In the midst of a string, too.
    x = withLeaf(node(8, CODE));
    put(x, CODE, function(193, 0, OVER));
    is("17 within a string", x.print(STRING, 3), 0);
    is("jobs()", x.jobs(), 0);
  }

  private static void otherOrders() {
    for (int number = 18; number < 256; number++) {
      faults("ORDER " + number, 6, 8, b(number, 0, 0, 0, 0));
    }
    GlulxStrings x = toOut();
    put(x, 4093, b(193, 0, 18));
    is("ORDER 18 at the end of MEMORY", x.call(4093, 1), fault(6));
  }

  // ---- promise 10

  private static void callFaults() {
    for (int steps : new int[] {0, 5}) {
      GlulxStrings x = toOut();
      for (int at : new int[] {-1, 4096, MIN, MAX}) {
        is("call(" + at + ", " + steps + ")", x.call(at, steps), fault(1));
      }
      is("told(4)", x.told(4), 4);
      is("told(5)", x.told(5), 1);
      for (int kind : new int[] {0, 191, 194, 224, 225, 226, 255}) {
        put(x, CODE, b(kind, 0));
        is("call of " + kind, x.call(CODE, steps), fault(4));
      }
      put(x, CODE, b(193, 9));
      is("call of nine LOCALS", x.call(CODE, steps), fault(4));
      put(x, 4095, b(192));
      is("call of a FUNCTION without n", x.call(4095, steps), fault(1));
      is("told(0)", x.told(0), 0);
      is("told(4)", x.told(4), 13);
      is("jobs()", x.jobs(), 0);
      is("told(7)", x.told(7), 0);
    }
  }

  private static void callWithLine() {
    for (int n = 0; n <= 4; n++) {
      GlulxStrings x = toOut();
      put(x, CODE, function(192, 1, OVER));
      line(x, row(n, 5));
      is("call with " + n, x.call(CODE, 0), HELD);
      is("LOCAL 0", x.job(0, 10), n);
      is("told(14)", x.told(14), 0);
    }
    GlulxStrings x = toOut();
    put(x, CODE, function(192, 8, OVER));
    for (int n : new int[] {4, 1, 0, 3, 2}) {
      line(x, row(n, 5));
      is("call with " + n + " then", x.call(CODE, 0), HELD);
      is("LOCAL 0", x.job(0, 10), n);
      for (int i = 1; i < 8; i++) {
        is("LOCAL " + i, x.job(0, 10 + i), i <= n ? 5 : 0);
      }
      x.stop();
    }
    x.sign(5);
    is("call(-1, 0)", x.call(-1, 0), fault(1));
    is("told(14)", x.told(14), 0);
  }

  private static void longerLine() {
    GlulxStrings x = withCode(0, OVER);
    for (int n : new int[] {5, 120}) {
      line(x, row(n - x.told(14), 5));
      is("call with " + n, x.call(CODE, 9), BAD);
      is("told(14)", x.told(14), n);
      is("jobs()", x.jobs(), 0);
    }
    is("call of nothing with 120", x.call(-1, 9), BAD);
    is("told(4)", x.told(4), 0);
  }

  private static void callBadNo() {
    GlulxStrings x = withCode(2, order(1, b(1, 65)), order(0, b(0)));
    line(x, 21, 22);
    for (int steps : new int[] {-1, 100001, MIN, MAX}) {
      is("call(CODE, " + steps + ")", x.call(CODE, steps), BAD);
      is("told(14)", x.told(14), 2);
    }
    is("call(CODE, 1)", x.call(CODE, 1), HELD);
    line(x, 23);
    is("call(CODE, 9)", x.call(CODE, 9), NO);
    is("call(CODE, 0)", x.call(CODE, 0), NO);
    is("call(-1, 0)", x.call(-1, 0), NO);
    is("told(14)", x.told(14), 1);
    is("jobs()", x.jobs(), 1);
    is("LOCAL 0", x.job(0, 10), 21);
    is("LOCAL 1", x.job(0, 11), 22);
    is("job(0, 1)", x.job(0, 1), CODE + 5);
    is("told(4)", x.told(4), 0);
    is("resume(9)", x.resume(9), 0);
    is("call(CODE, 100000)", x.call(CODE, 100000), 1);
  }
}
