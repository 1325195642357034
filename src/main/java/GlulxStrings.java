import java.util.Arrays;

/**
 * A machine for packed texts: it holds strings and functions in a memory of bytes, prints them by
 * steps that may be halted anywhere, and packs texts by the best tree for told pieces.
 */
public final class GlulxStrings {
  public static final int NONE = -1, BAD = -2, NO = -3, FULL = -4, HELD = -5;

  private static final int TAPE_ROOM = 600;
  private static final int LINE_ROOM = 120;
  private static final int MOST_STEPS = 100000;
  private static final int MOST_BYTES_FED = 8;

  private final Memory memory;
  private final Table table;
  private final Machine machine;
  private final Packer packer;
  private final byte[] tape;
  private final int[] line;
  private int taped;
  private int lined;

  public GlulxStrings() {
    memory = new Memory();
    table = new Table(memory);
    machine = new Machine(memory, table);
    packer = new Packer(memory, table);
    tape = new byte[TAPE_ROOM];
    line = new int[LINE_ROOM];
    taped = 0;
    lined = 0;
  }

  public int feed(int n, long w) {
    if (n < 1 || n > MOST_BYTES_FED) {
      return BAD;
    }
    if (taped > TAPE_ROOM - n) {
      return FULL;
    }
    for (int i = n - 1; i >= 0; i--) {
      tape[taped] = (byte) (w >> (8 * i));
      taped++;
    }
    return taped;
  }

  public int load(int at) {
    int n = taped;
    taped = 0;
    // No byte of an empty tape can lie outside, so any address will do for it.
    if (n == 0) {
      return 0;
    }
    if (at < 0 || at > Memory.SIZE - n) {
      return BAD;
    }
    System.arraycopy(tape, 0, memory.bytes, at, n);
    table.dropIfTouched(at, at + n);
    return n;
  }

  public int border(int n) {
    if (n < 0 || n > Memory.SIZE) {
      return BAD;
    }
    int before = memory.border;
    memory.border = n;
    table.drop();
    return before;
  }

  public int byteAt(int at) {
    return memory.has(at) ? memory.byteOf(at) : NONE;
  }

  public int table(int at) {
    if (machine.depth > 0) {
      return NO;
    }
    table.tell(at);
    return table.cachedNodes();
  }

  public int system(int system, int w) {
    if (!Machine.isSystem(system)) {
      return BAD;
    }
    if (machine.depth > 0) {
      return NO;
    }
    machine.setSystem(system, w);
    return 0;
  }

  public int print(int at, int steps) {
    if (!isStepCount(steps)) {
      return BAD;
    }
    if (machine.depth > 0) {
      return NO;
    }
    machine.beginString(at);
    return machine.run(steps);
  }

  public int number(int v, int steps) {
    if (!isStepCount(steps)) {
      return BAD;
    }
    if (machine.depth > 0) {
      return NO;
    }
    machine.begin(Job.NUMBER, v);
    return machine.run(steps);
  }

  public int call(int at, int steps) {
    if (!isStepCount(steps) || lined > Machine.MOST_ARGUMENTS) {
      return BAD;
    }
    if (machine.depth > 0) {
      return NO;
    }
    machine.setArguments(line, lined);
    lined = 0;
    machine.callFunction(at, Job.NOWHERE);
    return machine.run(steps);
  }

  public int resume(int steps) {
    if (!isStepCount(steps)) {
      return BAD;
    }
    if (machine.depth == 0) {
      return NO;
    }
    return machine.run(steps);
  }

  public int stop() {
    int before = machine.depth;
    machine.depth = 0;
    return before;
  }

  public int jobs() {
    return machine.depth;
  }

  public int job(int k, int what) {
    if (k < 0 || k >= machine.depth) {
      return 0;
    }
    return machine.jobs[k].tell(what);
  }

  public int at(int i) {
    return i >= 0 && i < machine.outCount ? machine.out[i] : NONE;
  }

  public int clear() {
    int before = machine.outCount;
    machine.outCount = 0;
    return before;
  }

  public int told(int what) {
    switch (what) {
      case 8: return machine.system;
      case 9: return machine.systemWith;
      case 10: return table.address;
      case 11: return memory.border;
      case 12: return machine.outCount;
      case 13: return taped;
      case 14: return lined;
      case 15: return table.cachedNodes();
      case 16: return packer.pieces.count;
      case 17: return packer.texts.count;
      default: return machine.tally.tell(what);
    }
  }

  public int sign(int c) {
    if (lined >= LINE_ROOM) {
      return FULL;
    }
    line[lined] = c;
    lined++;
    return lined;
  }

  public int piece(int kind) {
    int n = lined;
    lined = 0;
    if (!Pieces.isPiece(kind, line, n)) {
      return BAD;
    }
    return packer.pieces.add(kind, line, n);
  }

  public int text() {
    int n = lined;
    lined = 0;
    if (packer.parting.part(line, n) == NONE) {
      return NO;
    }
    return packer.texts.add(line, n);
  }

  public int tree(int at) {
    if (at < 0) {
      return BAD;
    }
    if (packer.texts.count == 0) {
      return NO;
    }
    return packer.pack(at);
  }

  public int laid(int k, int what) {
    if (k < 0 || k >= packer.texts.count) {
      return BAD;
    }
    switch (what) {
      case 0: return packer.texts.places[k];
      case 1: return packer.texts.bits[k];
      case 2: return packer.parting.part(packer.texts.signs[k], packer.texts.lengths[k]);
      default: return BAD;
    }
  }

  public int bits(int piece) {
    if (piece == NONE) {
      return packer.endBits;
    }
    if (piece < 0 || piece >= packer.pieces.count) {
      return BAD;
    }
    return packer.pieces.bits[piece];
  }

  public int forget() {
    int before = packer.pieces.count;
    packer.pieces.count = 0;
    packer.texts.count = 0;
    return before;
  }

  private static boolean isStepCount(int steps) {
    return steps >= 0 && steps <= MOST_STEPS;
  }

  /** The bytes, and the border below which a running function changes none. */
  private static final class Memory {
    static final int SIZE = 4096;

    final byte[] bytes = new byte[SIZE];
    int border = 0;

    boolean has(int at) {
      return at >= 0 && at < SIZE;
    }

    boolean hasFour(int at) {
      return at >= 0 && at <= SIZE - 4;
    }

    /** A byte without sign; 0 outside, where callers have looked already. */
    int byteOf(int at) {
      return at >= 0 && at < SIZE ? bytes[at] & 255 : 0;
    }

    int fourOf(int at) {
      if (at < 0 || at > SIZE - 4) {
        return 0;
      }
      return (bytes[at] & 255) << 24 | (bytes[at + 1] & 255) << 16
          | (bytes[at + 2] & 255) << 8 | (bytes[at + 3] & 255);
    }

    void putByte(int at, int b) {
      if (at >= 0 && at < SIZE) {
        bytes[at] = (byte) b;
      }
    }

    void putFour(int at, int four) {
      putByte(at, four >> 24);
      putByte(at + 1, four >> 16);
      putByte(at + 2, four >> 8);
      putByte(at + 3, four);
    }
  }

  /** The kinds of nodes, and how a tree begins. */
  private static final class Node {
    static final int BRANCH = 0, END = 1, BYTE = 2, BYTES = 3, FOUR = 4, FOURS = 5;
    static final int THING = 8, THING_AT = 9, CALL = 10, CALL_AT = 11;
    static final int HEAD = 12, ROOT_AT = 8;
    static final int BRANCH_SIZE = 9, CALL_SIZE = 9;
  }

  /** Where the tree lies, and whether it is cached. */
  private static final class Table {
    private static final int UNCOUNTED = -1;

    private final Memory memory;
    /** The count in which an address was met last, so that nothing is wiped between counts. */
    private final int[] seenIn = new int[Memory.SIZE];
    private final int[] found = new int[Memory.SIZE];
    private int counts = 0;
    private int foundCount = 0;
    private int from = 0;
    private int to = 0;
    private int nodes = 0;
    int address = 0;

    Table(Memory memory) {
      this.memory = memory;
    }

    void tell(int at) {
      address = at;
      drop();
      if (at <= 0 || at > memory.border - Node.HEAD) {
        return;
      }
      int size = memory.fourOf(at);
      if (size < Node.HEAD || size > memory.border - at) {
        return;
      }
      from = at;
      to = at + size;
      nodes = UNCOUNTED;
    }

    void drop() {
      from = 0;
      to = 0;
      nodes = 0;
    }

    /** The bytes from start up to the one ahead of end have been told. */
    void dropIfTouched(int start, int end) {
      if (start < to && end > from) {
        drop();
      }
    }

    /**
     * Counts when it is asked for, since functions may tell the tree at each step: the bytes of a
     * cached tree can't change before it is dropped.
     */
    int cachedNodes() {
      if (nodes == UNCOUNTED) {
        nodes = countNodes();
      }
      return nodes;
    }

    private int countNodes() {
      counts++;
      foundCount = 0;
      find(memory.fourOf(from + Node.ROOT_AT));
      for (int i = 0; i < foundCount && i < Memory.SIZE; i++) {
        int node = found[i];
        if (memory.byteOf(node) == Node.BRANCH) {
          find(memory.fourOf(node + 1));
          find(memory.fourOf(node + 5));
        }
      }
      return foundCount;
    }

    private void find(int node) {
      if (node < from || node >= to || !memory.has(node) || seenIn[node] == counts) {
        return;
      }
      seenIn[node] = counts;
      if (isWhole(node) && foundCount < Memory.SIZE) {
        found[foundCount] = node;
        foundCount++;
      }
    }

    private boolean isWhole(int node) {
      int room = to - node;
      switch (memory.byteOf(node)) {
        case Node.BRANCH: return room >= Node.BRANCH_SIZE;
        case Node.END: return true;
        case Node.BYTE: return room >= 2;
        case Node.BYTES: return hasEndOfBytes(node + 1);
        case Node.FOUR:
        case Node.THING:
        case Node.THING_AT: return room >= 5;
        case Node.FOURS: return hasEndOfFours(node + 1);
        case Node.CALL:
        case Node.CALL_AT: return room >= Node.CALL_SIZE + argumentBytes(node);
        default: return false;
      }
    }

    private int argumentBytes(int node) {
      int n = memory.fourOf(node + 5);
      return n >= 0 && n <= Machine.MOST_ARGUMENTS ? 4 * n : 0;
    }

    private boolean hasEndOfBytes(int row) {
      for (int p = row; p < to; p++) {
        if (memory.byteOf(p) == 0) {
          return true;
        }
      }
      return false;
    }

    private boolean hasEndOfFours(int row) {
      for (int p = row; p + 4 <= to; p += 4) {
        if (memory.fourOf(p) == 0) {
          return true;
        }
      }
      return false;
    }
  }

  /** What is under way: a function, a string, a row of signs or a number. */
  private static final class Job {
    static final int FUNCTION = 0, PLAIN = 1, WIDE = 2, PACKED = 3, NUMBER = 4;
    static final int MOST_LOCALS = 8;
    static final int NOWHERE = 255;
    private static final int FIRST_LOCAL = 10;

    final int[] locals = new int[MOST_LOCALS];
    int kind = FUNCTION;
    int place = 0;
    int bit = 0;
    int localCount = 0;
    /** Any address may be a node's, so that the root comes next is told apart from it. */
    boolean atRoot = true;
    int node = 0;
    /** The local of the function below that the result goes to. */
    int resultTo = NOWHERE;

    void reset(int newKind, int newPlace) {
      kind = newKind;
      place = newPlace;
      bit = 0;
      localCount = 0;
      atRoot = true;
      node = 0;
      resultTo = NOWHERE;
    }

    boolean hasLocal(int i) {
      return i >= 0 && i < localCount && i < MOST_LOCALS;
    }

    void setLocal(int i, int value) {
      if (i >= 0 && i < localCount && i < MOST_LOCALS) {
        locals[i] = value;
      }
    }

    int tell(int what) {
      switch (what) {
        case 0: return kind;
        case 1: return place;
        case 2: return bit;
        case 3: return localCount;
        case 4: return tellNode();
        default: return what >= FIRST_LOCAL && hasLocal(what - FIRST_LOCAL) ? locals[what - FIRST_LOCAL] : 0;
      }
    }

    private int tellNode() {
      if (kind != PACKED) {
        return 0;
      }
      return atRoot ? NONE : node;
    }
  }

  /** What is counted since the object was made. */
  private static final class Tally {
    int steps = 0;
    int toOut = 0;
    int toFunction = 0;
    int toNowhere = 0;
    int faults = 0;
    int latestFault = 0;
    int result = 0;
    int mostJobs = 0;

    int tell(int what) {
      switch (what) {
        case 0: return steps;
        case 1: return toOut;
        case 2: return toFunction;
        case 3: return toNowhere;
        case 4: return faults;
        case 5: return latestFault;
        case 6: return result;
        case 7: return mostJobs;
        default: return BAD;
      }
    }
  }

  /** Does the steps of the jobs. A fault is kept in a field until the step is over: the first one counts. */
  private static final class Machine {
    static final int MOST_ARGUMENTS = 4;
    private static final int MOST_JOBS = 40;
    private static final int OUT_ROOM = 1000;

    private static final int TO_NOWHERE = 0, TO_FUNCTION = 1, TO_OUT = 2;

    private static final int STRING_PLAIN = 224, STRING_PACKED = 225, STRING_WIDE = 226;
    private static final int FUNCTION_COUNTED = 192, FUNCTION_DIRECT = 193;

    private static final int FAULT_OUTSIDE = 1, FAULT_NO_TREE = 2, FAULT_NODE = 3, FAULT_THING = 4;
    private static final int FAULT_ARGUMENTS = 5, FAULT_ORDER = 6, FAULT_WRITE = 7, FAULT_JOBS = 8;
    private static final int FAULT_OUT = 9;
    private static final int FAULT_BASE = -10;

    private static final int ORDER_CALL = 6, LAST_ORDER = 17;
    /** How many values each order has; that of a call is read apart. */
    private static final int[] VALUES = {1, 1, 1, 1, 2, 1, 0, 1, 2, 2, 1, 1, 2, 1, 1, 2, 0, 0};
    /** What each order has behind its values: 1 a target, 2 a distance. */
    private static final int[] TAILS = {0, 0, 0, 0, 0, 0, 0, 1, 1, 1, 2, 2, 2, 1, 1, 0, 1, 0};
    private static final int TARGET = 1, DISTANCE = 2;

    private static final int MINUS = 45, ZERO = 48;

    private final Memory memory;
    private final Table table;
    final Tally tally = new Tally();
    final Job[] jobs = new Job[MOST_JOBS];
    final int[] out = new int[OUT_ROOM];
    private final int[] arguments = new int[MOST_ARGUMENTS];
    private int argumentCount = 0;
    int depth = 0;
    int outCount = 0;
    int system = 0;
    int systemWith = 0;
    private int fault = 0;
    private int cursor = 0;

    Machine(Memory memory, Table table) {
      this.memory = memory;
      this.table = table;
      for (int i = 0; i < MOST_JOBS; i++) {
        jobs[i] = new Job();
      }
    }

    static boolean isSystem(int v) {
      return v >= TO_NOWHERE && v <= TO_OUT;
    }

    void setSystem(int v, int w) {
      system = isSystem(v) ? v : TO_NOWHERE;
      systemWith = w;
    }

    void setArguments(int[] row, int n) {
      argumentCount = 0;
      for (int i = 0; i < n && i < row.length && i < MOST_ARGUMENTS; i++) {
        arguments[i] = row[i];
        argumentCount++;
      }
    }

    // ---- steps

    int run(int steps) {
      int before = tally.toOut;
      for (int i = 0; i < steps && depth > 0 && fault == 0; i++) {
        tally.steps++;
        Job job = jobs[depth - 1];
        switch (job.kind) {
          case Job.FUNCTION: doOrder(job); break;
          case Job.PLAIN: stepPlain(job); break;
          case Job.WIDE: stepWide(job); break;
          case Job.PACKED: stepPacked(job); break;
          default: stepNumber(job); break;
        }
      }
      if (fault != 0) {
        return endInFault();
      }
      return depth > 0 ? HELD : tally.toOut - before;
    }

    private int endInFault() {
      int ended = fault;
      fault = 0;
      depth = 0;
      tally.faults++;
      tally.latestFault = ended;
      return FAULT_BASE - ended;
    }

    private void fail(int number) {
      if (fault == 0) {
        fault = number;
      }
    }

    private int readByte(int at) {
      if (!memory.has(at)) {
        fail(FAULT_OUTSIDE);
        return 0;
      }
      return memory.byteOf(at);
    }

    private int readFour(int at) {
      if (!memory.hasFour(at)) {
        fail(FAULT_OUTSIDE);
        return 0;
      }
      return memory.fourOf(at);
    }

    private void stepPlain(Job job) {
      int c = readByte(job.place);
      if (fault != 0) {
        return;
      }
      if (c == 0) {
        depth--;
        return;
      }
      job.place++;
      give(c);
    }

    private void stepWide(Job job) {
      int c = readFour(job.place);
      if (fault != 0) {
        return;
      }
      if (c == 0) {
        depth--;
        return;
      }
      job.place += 4;
      give(c);
    }

    private void stepNumber(Job job) {
      long rest = Math.abs((long) job.place);
      int minus = job.place < 0 ? 1 : 0;
      int behind = minus + digitCount(rest) - 1 - job.bit;
      if (behind < 0) {
        depth--;
        return;
      }
      boolean isMinus = minus == 1 && job.bit == 0;
      job.bit++;
      if (isMinus) {
        give(MINUS);
        return;
      }
      for (int i = 0; i < behind; i++) {
        rest /= 10;
      }
      give(ZERO + (int) (rest % 10));
    }

    private static int digitCount(long number) {
      int n = 1;
      long rest = number / 10;
      while (rest > 0 && n < 20) {
        rest /= 10;
        n++;
      }
      return n;
    }

    private void stepPacked(Job job) {
      if (table.address == 0) {
        fail(FAULT_NO_TREE);
        return;
      }
      int node = job.atRoot ? readFour(table.address + Node.ROOT_AT) : job.node;
      if (fault != 0) {
        return;
      }
      int kind = readByte(node);
      if (fault != 0) {
        return;
      }
      if (kind == Node.BRANCH) {
        followBranch(job, node);
      } else if (kind == Node.END) {
        depth--;
      } else {
        job.atRoot = true;
        doLeaf(node, kind);
      }
    }

    private void followBranch(Job job, int node) {
      int bit = readByte(job.place) >> job.bit & 1;
      int next = readFour(node + 1 + 4 * bit);
      if (fault != 0) {
        return;
      }
      job.node = next;
      job.atRoot = false;
      job.bit++;
      if (job.bit == 8) {
        job.bit = 0;
        job.place++;
      }
    }

    private void doLeaf(int node, int kind) {
      switch (kind) {
        case Node.BYTE: give(readByte(node + 1)); break;
        case Node.BYTES: begin(Job.PLAIN, node + 1); break;
        case Node.FOUR: give(readFour(node + 1)); break;
        case Node.FOURS: begin(Job.WIDE, node + 1); break;
        case Node.THING:
        case Node.THING_AT:
        case Node.CALL:
        case Node.CALL_AT: enterThing(node, kind); break;
        default: fail(FAULT_NODE); break;
      }
    }

    private void enterThing(int node, int kind) {
      int thing = readFour(node + 1);
      if (fault == 0 && (kind == Node.THING_AT || kind == Node.CALL_AT)) {
        thing = readFour(thing);
      }
      argumentCount = 0;
      if (kind == Node.CALL || kind == Node.CALL_AT) {
        readArguments(node + 5);
      }
      int told = fault == 0 ? readByte(thing) : 0;
      if (fault != 0) {
        return;
      }
      if (told == FUNCTION_COUNTED || told == FUNCTION_DIRECT) {
        callFunction(thing, Job.NOWHERE);
      } else {
        beginString(thing);
      }
    }

    private void readArguments(int at) {
      int n = readFour(at);
      if (n < 0 || n > MOST_ARGUMENTS) {
        fail(FAULT_ARGUMENTS);
        return;
      }
      for (int i = 0; i < n; i++) {
        arguments[i] = readFour(at + 4 + 4 * i);
      }
      argumentCount = n;
    }

    // ---- beginnings

    void begin(int kind, int place) {
      if (fault != 0) {
        return;
      }
      if (depth >= MOST_JOBS) {
        fail(FAULT_JOBS);
        return;
      }
      jobs[depth].reset(kind, place);
      depth++;
      tally.mostJobs = Math.max(tally.mostJobs, depth);
    }

    void beginString(int at) {
      int kind = readByte(at);
      if (fault != 0) {
        return;
      }
      switch (kind) {
        case STRING_PLAIN: begin(Job.PLAIN, at + 1); break;
        case STRING_PACKED: begin(Job.PACKED, at + 1); break;
        case STRING_WIDE: begin(Job.WIDE, at + 4); break;
        default: fail(FAULT_THING); break;
      }
    }

    /** Calls the function with the arguments that have been set. */
    void callFunction(int at, int resultTo) {
      int kind = readByte(at);
      if (fault != 0) {
        return;
      }
      if (kind != FUNCTION_COUNTED && kind != FUNCTION_DIRECT) {
        fail(FAULT_THING);
        return;
      }
      int localCount = readByte(at + 1);
      if (localCount > Job.MOST_LOCALS) {
        fail(FAULT_THING);
      }
      begin(Job.FUNCTION, at + 2);
      if (fault != 0 || depth == 0) {
        return;
      }
      Job job = jobs[depth - 1];
      job.localCount = localCount;
      job.resultTo = resultTo;
      fillLocals(job, kind == FUNCTION_COUNTED);
    }

    private void fillLocals(Job job, boolean counted) {
      Arrays.fill(job.locals, 0);
      int first = 0;
      if (counted) {
        job.setLocal(0, argumentCount);
        first = 1;
      }
      for (int i = 0; i < argumentCount && i < MOST_ARGUMENTS; i++) {
        job.setLocal(first + i, arguments[i]);
      }
    }

    private void give(int c) {
      if (fault != 0) {
        return;
      }
      if (system == TO_OUT) {
        putOut(c);
      } else if (system == TO_FUNCTION) {
        arguments[0] = c;
        argumentCount = 1;
        callFunction(systemWith, Job.NOWHERE);
        if (fault == 0) {
          tally.toFunction++;
        }
      } else {
        tally.toNowhere++;
      }
    }

    private void putOut(int c) {
      if (outCount >= OUT_ROOM) {
        fail(FAULT_OUT);
        return;
      }
      out[outCount] = c;
      outCount++;
      tally.toOut++;
    }

    // ---- orders

    private void doOrder(Job job) {
      cursor = job.place;
      int order = nextByte();
      if (order > LAST_ORDER) {
        fail(FAULT_ORDER);
      }
      if (fault != 0) {
        return;
      }
      if (order == ORDER_CALL) {
        doCallOrder(job);
        return;
      }
      int v = VALUES[order] > 0 ? nextValue(job) : 0;
      int w = VALUES[order] > 1 ? nextValue(job) : 0;
      int target = TAILS[order] == TARGET ? nextTarget(job) : Job.NOWHERE;
      int distance = TAILS[order] == DISTANCE ? nextDistance() : 0;
      if (fault != 0) {
        return;
      }
      job.place = cursor;
      if (TAILS[order] == TARGET) {
        int value = valueFor(order, v, w);
        if (fault == 0) {
          job.setLocal(target, value);
        }
      } else if (TAILS[order] == DISTANCE) {
        if (goesThere(order, v, w)) {
          job.place = cursor + distance;
        }
      } else {
        act(job, order, v, w);
      }
    }

    private void doCallOrder(Job job) {
      int v = nextValue(job);
      int n = nextByte();
      if (n > MOST_ARGUMENTS) {
        fail(FAULT_ORDER);
      }
      if (fault != 0) {
        return;
      }
      for (int i = 0; i < n; i++) {
        arguments[i] = nextValue(job);
      }
      argumentCount = n;
      int target = nextTarget(job);
      if (fault != 0) {
        return;
      }
      job.place = cursor;
      callFunction(v, target);
    }

    private int valueFor(int order, int v, int w) {
      switch (order) {
        case 7: return v;
        case 8: return v + w;
        case 9: return v - w;
        case 13: return readByte(v);
        case 14: return readFour(v);
        default: return table.address;
      }
    }

    private static boolean goesThere(int order, int v, int w) {
      switch (order) {
        case 10: return v == 0;
        case 11: return v != 0;
        default: return v < w;
      }
    }

    private void act(Job job, int order, int v, int w) {
      switch (order) {
        case 0: endFunction(job, v); break;
        case 1: give(v); break;
        case 2: beginString(v); break;
        case 3: begin(Job.NUMBER, v); break;
        case 4: setSystem(v, w); break;
        case 5: table.tell(v); break;
        case 15: writeByte(v, w); break;
        default: depth = 0; break;
      }
    }

    private void endFunction(Job job, int result) {
      tally.result = result;
      depth--;
      if (depth > 0) {
        jobs[depth - 1].setLocal(job.resultTo, result);
      }
    }

    private void writeByte(int at, int b) {
      if (at < memory.border || !memory.has(at)) {
        fail(FAULT_WRITE);
        return;
      }
      memory.putByte(at, b);
    }

    private int nextByte() {
      int b = readByte(cursor);
      cursor++;
      return b;
    }

    private int nextFour() {
      int four = readFour(cursor);
      cursor += 4;
      return four;
    }

    private int nextDistance() {
      int high = (byte) nextByte();
      return high * 256 + nextByte();
    }

    private int nextValue(Job job) {
      switch (nextByte()) {
        case 0: return 0;
        case 1: return (byte) nextByte();
        case 2: return nextFour();
        case 3: return localOf(job, nextByte());
        default: fail(FAULT_ORDER); return 0;
      }
    }

    private int localOf(Job job, int i) {
      if (!job.hasLocal(i)) {
        fail(FAULT_ORDER);
        return 0;
      }
      return job.locals[i];
    }

    private int nextTarget(Job job) {
      int i = nextByte();
      if (i != Job.NOWHERE && !job.hasLocal(i)) {
        fail(FAULT_ORDER);
      }
      return i;
    }
  }

  /** The pieces that texts are made of. */
  private static final class Pieces {
    private static final int ROOM = 60;
    private static final int LONGEST = 20;
    private static final int FIRST_THING_SIGN = -1000;

    private final int[] kinds = new int[ROOM];
    private final int[] addresses = new int[ROOM];
    private final int[][] signs = new int[ROOM][LONGEST];
    final int[] lengths = new int[ROOM];
    final int[] bits = new int[ROOM];
    int count = 0;

    static boolean isPiece(int kind, int[] row, int n) {
      switch (kind) {
        case Node.BYTE: return n == 1 && areSigns(row, n, true);
        case Node.BYTES: return n >= 2 && n <= LONGEST && areSigns(row, n, true);
        case Node.FOUR: return n == 1 && areSigns(row, n, false);
        case Node.FOURS: return n >= 2 && n <= LONGEST && areSigns(row, n, false);
        case Node.THING:
        case Node.THING_AT: return n == 1;
        default: return false;
      }
    }

    private static boolean areSigns(int[] row, int n, boolean bytes) {
      for (int i = 0; i < n && i < row.length; i++) {
        if (row[i] == 0 || bytes && (row[i] < 0 || row[i] > 255)) {
          return false;
        }
      }
      return true;
    }

    int add(int kind, int[] row, int n) {
      if (count >= ROOM) {
        return FULL;
      }
      int p = count;
      kinds[p] = kind;
      lengths[p] = n;
      bits[p] = NONE;
      for (int i = 0; i < n && i < LONGEST && i < row.length; i++) {
        signs[p][i] = row[i];
      }
      if (kind == Node.THING || kind == Node.THING_AT) {
        addresses[p] = signs[p][0];
        signs[p][0] = FIRST_THING_SIGN - p;
      }
      count++;
      return p;
    }

    /** Whether the signs of the piece stand in the row from an index on; n is the row's length. */
    boolean standsAt(int p, int[] row, int from, int n) {
      if (from < 0 || n > row.length || lengths[p] > n - from) {
        return false;
      }
      for (int i = 0; i < lengths[p] && i < LONGEST; i++) {
        if (row[from + i] != signs[p][i]) {
          return false;
        }
      }
      return true;
    }

    int nodeSize(int p) {
      switch (kinds[p]) {
        case Node.BYTE: return 2;
        case Node.BYTES: return 1 + lengths[p] + 1;
        case Node.FOURS: return 1 + 4 * lengths[p] + 4;
        default: return 5;
      }
    }

    void putNode(Memory memory, int p, int at) {
      memory.putByte(at, kinds[p]);
      switch (kinds[p]) {
        case Node.BYTE: memory.putByte(at + 1, signs[p][0]); break;
        case Node.BYTES: putBytes(memory, p, at + 1); break;
        case Node.FOUR: memory.putFour(at + 1, signs[p][0]); break;
        case Node.FOURS: putFours(memory, p, at + 1); break;
        default: memory.putFour(at + 1, addresses[p]); break;
      }
    }

    private void putBytes(Memory memory, int p, int at) {
      for (int i = 0; i < lengths[p] && i < LONGEST; i++) {
        memory.putByte(at + i, signs[p][i]);
      }
      memory.putByte(at + lengths[p], 0);
    }

    private void putFours(Memory memory, int p, int at) {
      for (int i = 0; i < lengths[p] && i < LONGEST; i++) {
        memory.putFour(at + 4 * i, signs[p][i]);
      }
      memory.putFour(at + 4 * lengths[p], 0);
    }
  }

  /** The texts, and where they were laid last. */
  private static final class Texts {
    static final int ROOM = 20;

    final int[][] signs = new int[ROOM][LINE_ROOM];
    final int[] lengths = new int[ROOM];
    final int[] places = new int[ROOM];
    final int[] bits = new int[ROOM];
    int count = 0;

    int add(int[] row, int n) {
      if (count >= ROOM) {
        return FULL;
      }
      int k = count;
      for (int i = 0; i < n && i < LINE_ROOM && i < row.length; i++) {
        signs[k][i] = row[i];
      }
      lengths[k] = n;
      places[k] = NONE;
      bits[k] = 0;
      count++;
      return k;
    }
  }

  /** Parts a row of signs into the fewest pieces, the longest ones first. */
  private static final class Parting {
    private static final int NEVER = LINE_ROOM + 1;

    private final Pieces pieces;
    private final int[] fewest = new int[LINE_ROOM + 1];
    private final int[] firsts = new int[LINE_ROOM + 1];

    Parting(Pieces pieces) {
      this.pieces = pieces;
    }

    /** How many pieces the row has, or NONE. */
    int part(int[] row, int n) {
      if (n < 0 || n > LINE_ROOM || n > row.length) {
        return NONE;
      }
      fewest[n] = 0;
      for (int i = n - 1; i >= 0; i--) {
        choose(row, i, n);
      }
      return fewest[0] < NEVER ? fewest[0] : NONE;
    }

    private void choose(int[] row, int from, int n) {
      fewest[from] = NEVER;
      firsts[from] = NONE;
      int longest = 0;
      for (int p = 0; p < pieces.count; p++) {
        if (!pieces.standsAt(p, row, from, n)) {
          continue;
        }
        int length = pieces.lengths[p];
        int total = fewest[from + length] + 1;
        boolean isBetter = total < fewest[from] || total == fewest[from] && length > longest;
        if (total < NEVER && isBetter) {
          fewest[from] = total;
          firsts[from] = p;
          longest = length;
        }
      }
    }

    /** Puts the pieces of the row that was parted last into another row; n is its length. */
    int copyPieces(int n, int[] into) {
      int count = 0;
      int i = 0;
      while (i < n && i < LINE_ROOM && count < into.length) {
        int p = firsts[i];
        if (p < 0 || pieces.lengths[p] < 1) {
          return count;
        }
        into[count] = p;
        count++;
        i += pieces.lengths[p];
      }
      return count;
    }
  }

  /**
   * The best tree. Its knots stand in the order that the document joins them by: the end, the used
   * pieces, then what is made; so what is joined stands ahead of what it becomes.
   */
  private static final class BestTree {
    private static final int MOST_LEAVES = Pieces.ROOM + 1;
    private static final int ROOM = 2 * MOST_LEAVES - 1;

    private final int[] uses = new int[ROOM];
    private final boolean[] joined = new boolean[ROOM];
    private final int[] zeros = new int[ROOM];
    private final int[] ones = new int[ROOM];
    private final int[] sizes = new int[ROOM];
    /** The piece of a leaf; NONE: the end. */
    final int[] leaves = new int[ROOM];
    final int[] places = new int[ROOM];
    final int[] depths = new int[ROOM];
    final long[] codes = new long[ROOM];
    int count = 0;
    int leafCount = 0;

    void clearLeaves() {
      count = 0;
      leafCount = 0;
    }

    void addLeaf(int piece, int useCount, int size) {
      if (count >= MOST_LEAVES) {
        return;
      }
      leaves[count] = piece;
      addKnot(useCount, size);
      leafCount = count;
    }

    private void addKnot(int useCount, int size) {
      uses[count] = useCount;
      sizes[count] = size;
      joined[count] = false;
      count++;
    }

    void joinAll() {
      for (int left = leafCount; left >= 2 && count < ROOM; left--) {
        int zero = takeLeast();
        int one = takeLeast();
        if (zero < 0 || one < 0) {
          return;
        }
        zeros[count] = zero;
        ones[count] = one;
        addKnot(uses[zero] + uses[one], Node.BRANCH_SIZE + sizes[zero] + sizes[one]);
      }
    }

    private int takeLeast() {
      int least = NONE;
      for (int i = 0; i < count; i++) {
        if (!joined[i] && (least < 0 || uses[i] < uses[least])) {
          least = i;
        }
      }
      if (least >= 0) {
        joined[least] = true;
      }
      return least;
    }

    int size() {
      return count > 0 ? Node.HEAD + sizes[count - 1] : Node.HEAD;
    }

    /** Tells each knot its address and its bits; a branch stands behind its parts, so from the root down. */
    void spread(int at) {
      if (count == 0) {
        return;
      }
      int root = count - 1;
      places[root] = at + Node.HEAD;
      depths[root] = 0;
      codes[root] = 0;
      for (int i = root; i >= leafCount; i--) {
        int zero = zeros[i];
        int one = ones[i];
        places[zero] = places[i] + Node.BRANCH_SIZE;
        places[one] = places[zero] + sizes[zero];
        depths[zero] = depths[i] + 1;
        depths[one] = depths[i] + 1;
        codes[zero] = codes[i];
        codes[one] = codes[i] | 1L << depths[i];
      }
    }

    void putNodes(Memory memory, Pieces pieces, int at) {
      memory.putFour(at, size());
      memory.putFour(at + 4, count);
      memory.putFour(at + Node.ROOT_AT, at + Node.HEAD);
      for (int i = 0; i < count; i++) {
        if (i >= leafCount) {
          putBranch(memory, i);
        } else if (leaves[i] < 0) {
          memory.putByte(places[i], Node.END);
        } else {
          pieces.putNode(memory, leaves[i], places[i]);
        }
      }
    }

    private void putBranch(Memory memory, int i) {
      memory.putByte(places[i], Node.BRANCH);
      memory.putFour(places[i] + 1, places[zeros[i]]);
      memory.putFour(places[i] + 5, places[ones[i]]);
    }
  }

  /** Packs the texts and lays them into the memory. */
  private static final class Packer {
    private final Memory memory;
    private final Table table;
    final Pieces pieces = new Pieces();
    final Texts texts = new Texts();
    final Parting parting = new Parting(pieces);
    private final BestTree best = new BestTree();
    private final int[][] parts = new int[Texts.ROOM][LINE_ROOM];
    private final int[] partCounts = new int[Texts.ROOM];
    private final int[] packedBits = new int[Texts.ROOM];
    private final int[] uses = new int[Pieces.ROOM];
    /** The leaf of each piece that is used. */
    private final int[] leafOf = new int[Pieces.ROOM];
    int endBits = NONE;

    Packer(Memory memory, Table table) {
      this.memory = memory;
      this.table = table;
    }

    int pack(int at) {
      partTexts();
      growTree();
      best.spread(at);
      int room = best.size();
      int total = 0;
      for (int k = 0; k < texts.count; k++) {
        packedBits[k] = countBits(k);
        total += packedBits[k];
        room += 1 + (packedBits[k] + 7) / 8;
      }
      if (at > Memory.SIZE - room) {
        return FULL;
      }
      best.putNodes(memory, pieces, at);
      putTexts(at + best.size());
      keepBits();
      table.dropIfTouched(at, at + room);
      return total;
    }

    private void partTexts() {
      Arrays.fill(uses, 0);
      for (int k = 0; k < texts.count; k++) {
        parting.part(texts.signs[k], texts.lengths[k]);
        partCounts[k] = parting.copyPieces(texts.lengths[k], parts[k]);
        for (int i = 0; i < partCounts[k]; i++) {
          uses[parts[k][i]]++;
        }
      }
    }

    private void growTree() {
      best.clearLeaves();
      best.addLeaf(NONE, texts.count, 1);
      for (int p = 0; p < pieces.count; p++) {
        if (uses[p] > 0) {
          leafOf[p] = best.count;
          best.addLeaf(p, uses[p], pieces.nodeSize(p));
        }
      }
      best.joinAll();
    }

    private int countBits(int k) {
      int n = best.depths[0];
      for (int i = 0; i < partCounts[k]; i++) {
        n += best.depths[leafOf[parts[k][i]]];
      }
      return n;
    }

    private void putTexts(int at) {
      int place = at;
      for (int k = 0; k < texts.count; k++) {
        texts.places[k] = place;
        texts.bits[k] = packedBits[k];
        putText(k, place);
        place += 1 + (packedBits[k] + 7) / 8;
      }
    }

    private void putText(int k, int at) {
      memory.putByte(at, Machine.STRING_PACKED);
      for (int i = 0; i < (packedBits[k] + 7) / 8; i++) {
        memory.putByte(at + 1 + i, 0);
      }
      int bit = 0;
      for (int i = 0; i < partCounts[k]; i++) {
        bit = putBits(leafOf[parts[k][i]], at + 1, bit);
      }
      putBits(0, at + 1, bit);
    }

    /** Puts the bits of a leaf behind those that are there: how many there are then. */
    private int putBits(int leaf, int at, int from) {
      int bit = from;
      for (int i = 0; i < best.depths[leaf]; i++) {
        int there = memory.byteOf(at + bit / 8);
        int one = (int) (best.codes[leaf] >> i & 1);
        memory.putByte(at + bit / 8, there | one << bit % 8);
        bit++;
      }
      return bit;
    }

    private void keepBits() {
      endBits = best.depths[0];
      for (int i = 1; i < best.leafCount; i++) {
        int p = best.leaves[i];
        if (p >= 0 && p < pieces.count) {
          pieces.bits[p] = best.depths[i];
        }
      }
    }
  }
}
