import java.util.ArrayList;
import java.util.Arrays;
import java.util.HashMap;
import java.util.List;
import java.util.Map;
import java.util.Set;
import java.util.TreeSet;

/**
 * The document told a second time, as plainly as the Java library allows: faults are thrown, the
 * cache is counted at once, texts are parted by the whole list of lengths, trees are objects. The
 * class is compared with it.
 */
final class Model {
  private static final int NONE = -1, BAD = -2, NO = -3, FULL = -4, HELD = -5;

  private static final class Fault extends RuntimeException {
    private static final long serialVersionUID = 1L;
    final int number;

    Fault(int number) {
      super(null, null, false, false);
      this.number = number;
    }
  }

  private static final class Job {
    int kind;
    int place;
    int bit;
    int[] locals = {};
    Integer node;
    Integer target;
  }

  private final int[] memory = new int[4096];
  private int border;
  private int treeAt;
  private Set<Integer> cache;
  private int cacheEnd;
  private int system;
  private int systemWith;
  private final List<Integer> tape = new ArrayList<>();
  private List<Integer> line = new ArrayList<>();
  private final List<Integer> out = new ArrayList<>();
  private final List<Job> jobs = new ArrayList<>();
  private final int[] told = new int[8];

  int feed(int n, long w) {
    if (n < 1 || n > 8) return BAD;
    if (tape.size() + n > 600) return FULL;
    for (int i = n; i > 0; i--) tape.add((int) (w >>> 8 * (i - 1) & 255));
    return tape.size();
  }

  int load(int at) {
    List<Integer> bytes = new ArrayList<>(tape);
    tape.clear();
    for (int i = 0; i < bytes.size(); i++) {
      long a = (long) at + i;
      if (a < 0 || a > 4095) return BAD;
    }
    for (int i = 0; i < bytes.size(); i++) tellByte(at + i, bytes.get(i));
    return bytes.size();
  }

  private void tellByte(int at, int b) {
    memory[at] = b;
    if (cache != null && at >= treeAt && at < cacheEnd) cache = null;
  }

  int border(int n) {
    if (n < 0 || n > 4096) return BAD;
    int was = border;
    border = n;
    cache = null;
    return was;
  }

  int byteAt(int at) {
    return at < 0 || at > 4095 ? NONE : memory[at];
  }

  int table(int at) {
    if (!jobs.isEmpty()) return NO;
    tellTree(at);
    return told(15);
  }

  private void tellTree(int at) {
    treeAt = at;
    cache = null;
    if (at < 1 || (long) at + 12 > border) return;
    int size = four(at);
    if (size < 12 || (long) at + size > border) return;
    cacheEnd = at + size;
    cache = new TreeSet<>();
    cacheFrom(four(at + 8));
  }

  private void cacheFrom(int root) {
    List<Integer> open = new ArrayList<>(List.of(root));
    while (!open.isEmpty()) {
      int node = open.remove(open.size() - 1);
      if (node < treeAt || node >= cacheEnd || cache.contains(node)) continue;
      int size = nodeSize(node);
      if (size == 0 || node + size > cacheEnd) continue;
      cache.add(node);
      if (memory[node] == 0) {
        open.add(four(node + 1));
        open.add(four(node + 5));
      }
    }
  }

  /** 0: no node that could be whole. */
  private int nodeSize(int node) {
    try {
      switch (readByte(node)) {
        case 0: return 9;
        case 1: return 1;
        case 2: return 2;
        case 4: case 8: case 9: return 5;
        case 10: case 11: {
          int n = four(node + 5);
          return n < 0 || n > 4 ? 9 : 9 + 4 * n;
        }
        case 3: {
          int n = 1;
          while (readByte(node + n) != 0) n++;
          return n + 1;
        }
        case 5: {
          int n = 1;
          while (four(node + n) != 0) n += 4;
          return n + 4;
        }
        default: return 0;
      }
    } catch (Fault outside) {
      return 0;
    }
  }

  int system(int v, int w) {
    if (v < 0 || v > 2) return BAD;
    if (!jobs.isEmpty()) return NO;
    system = v;
    systemWith = w;
    return 0;
  }

  int print(int at, int steps) {
    if (steps < 0 || steps > 100000) return BAD;
    if (!jobs.isEmpty()) return NO;
    return run(steps, () -> printString(at));
  }

  int number(int v, int steps) {
    if (steps < 0 || steps > 100000) return BAD;
    if (!jobs.isEmpty()) return NO;
    return run(steps, () -> push(4, v));
  }

  int call(int at, int steps) {
    if (steps < 0 || steps > 100000 || line.size() > 4) return BAD;
    if (!jobs.isEmpty()) return NO;
    int[] with = line.stream().mapToInt(i -> i).toArray();
    line.clear();
    return run(steps, () -> callFunction(at, null, with));
  }

  int resume(int steps) {
    if (steps < 0 || steps > 100000) return BAD;
    if (jobs.isEmpty()) return NO;
    return run(steps, () -> { });
  }

  private int run(int steps, Runnable first) {
    int before = told[1];
    try {
      first.run();
      for (int i = 0; i < steps && !jobs.isEmpty(); i++) {
        told[0]++;
        step(jobs.get(jobs.size() - 1));
      }
    } catch (Fault f) {
      jobs.clear();
      told[4]++;
      told[5] = f.number;
      return -10 - f.number;
    }
    return jobs.isEmpty() ? told[1] - before : HELD;
  }

  int stop() {
    int n = jobs.size();
    jobs.clear();
    return n;
  }

  int jobs() {
    return jobs.size();
  }

  int job(int k, int what) {
    if (k < 0 || k >= jobs.size()) return 0;
    Job j = jobs.get(k);
    if (what == 0) return j.kind;
    if (what == 1) return j.place;
    if (what == 2) return j.kind >= 3 ? j.bit : 0;
    if (what == 3) return j.locals.length;
    if (what == 4) return j.kind != 3 ? 0 : j.node == null ? NONE : j.node;
    if (what >= 10 && what < 10 + j.locals.length) return j.locals[what - 10];
    return 0;
  }

  int at(int i) {
    return i < 0 || i >= out.size() ? NONE : out.get(i);
  }

  int clear() {
    int n = out.size();
    out.clear();
    return n;
  }

  int told(int what) {
    if (what < 0 || what > 17) return BAD;
    if (what < 8) return told[what];
    int[] now = {system, systemWith, treeAt, border, out.size(), tape.size(), line.size(),
      cache == null ? 0 : cache.size(), pieces.size(), texts.size()};
    return now[what - 8];
  }

  // ---- steps

  private int readByte(int at) {
    if (at < 0 || at > 4095) throw new Fault(1);
    return memory[at];
  }

  private int four(int at) {
    int v = 0;
    for (int i = 0; i < 4; i++) v = v << 8 | readByte(at + i);
    return v;
  }

  private Job push(int kind, int place) {
    if (jobs.size() == 40) throw new Fault(8);
    Job j = new Job();
    j.kind = kind;
    j.place = place;
    jobs.add(j);
    told[7] = Math.max(told[7], jobs.size());
    return j;
  }

  private void pop() {
    jobs.remove(jobs.size() - 1);
  }

  private void printString(int at) {
    int kind = readByte(at);
    if (kind == 224) push(1, at + 1);
    else if (kind == 225) push(3, at + 1);
    else if (kind == 226) push(2, at + 4);
    else throw new Fault(4);
  }

  private void callFunction(int at, Integer target, int... with) {
    int kind = readByte(at);
    if (kind != 192 && kind != 193) throw new Fault(4);
    int n = readByte(at + 1);
    if (n > 8) throw new Fault(4);
    Job j = push(0, at + 2);
    List<Integer> first = new ArrayList<>();
    if (kind == 192) first.add(with.length);
    for (int a : with) first.add(a);
    j.locals = new int[n];
    for (int i = 0; i < n && i < first.size(); i++) j.locals[i] = first.get(i);
    j.target = target;
  }

  private void give(int c) {
    if (system == 2) {
      if (out.size() == 1000) throw new Fault(9);
      out.add(c);
      told[1]++;
    } else if (system == 1) {
      callFunction(systemWith, null, c);
      told[2]++;
    } else {
      told[3]++;
    }
  }

  private void step(Job j) {
    switch (j.kind) {
      case 0: order(j); break;
      case 1: row(readByte(j.place), j, 1); break;
      case 2: row(four(j.place), j, 4); break;
      case 3: node(j); break;
      default: {
        String digits = Integer.toString(j.place);
        if (j.bit == digits.length()) {
          pop();
        } else {
          give(digits.charAt(j.bit++));
        }
      }
    }
  }

  private void row(int c, Job j, int width) {
    if (c == 0) {
      pop();
    } else {
      j.place += width;
      give(c);
    }
  }

  private void node(Job j) {
    if (treeAt == 0) throw new Fault(2);
    int node = j.node != null ? j.node : four(treeAt + 8);
    int kind = readByte(node);
    if (kind == 0) {
      int bit = readByte(j.place) >> j.bit & 1;
      j.node = four(bit == 0 ? node + 1 : node + 5);
      int bits = j.bit + 1;
      j.place += bits / 8;
      j.bit = bits % 8;
      return;
    }
    j.node = null;
    if (kind == 1) pop();
    else if (kind == 2) give(readByte(node + 1));
    else if (kind == 3) push(1, node + 1);
    else if (kind == 4) give(four(node + 1));
    else if (kind == 5) push(2, node + 1);
    else if (kind >= 8 && kind <= 11) thing(node, kind);
    else throw new Fault(3);
  }

  private void thing(int node, int kind) {
    int thing = four(node + 1);
    if (kind % 2 == 1) thing = four(thing);
    int[] with = {};
    if (kind >= 10) {
      int n = four(node + 5);
      if (n < 0 || n > 4) throw new Fault(5);
      with = new int[n];
      for (int i = 0; i < n; i++) with[i] = four(node + 9 + 4 * i);
    }
    int first = readByte(thing);
    if (first == 192 || first == 193) callFunction(thing, null, with);
    else printString(thing);
  }

  private int next(Job j) {
    return readByte(j.place++);
  }

  private int value(Job j) {
    int mode = next(j);
    if (mode == 0) return 0;
    if (mode == 1) return (byte) next(j);
    if (mode == 2) {
      int v = four(j.place);
      j.place += 4;
      return v;
    }
    if (mode != 3) throw new Fault(6);
    int i = next(j);
    if (i >= j.locals.length) throw new Fault(6);
    return j.locals[i];
  }

  private Integer target(Job j) {
    int t = next(j);
    if (t == 255) return null;
    if (t >= j.locals.length) throw new Fault(6);
    return t;
  }

  private static void set(Job j, Integer t, int v) {
    if (t != null) j.locals[t] = v;
  }

  private void jump(Job j, boolean goes) {
    int d = (short) (next(j) << 8 | next(j));
    if (goes) j.place += d;
  }

  private void order(Job j) {
    int o = next(j);
    int v;
    int w;
    Integer t;
    switch (o) {
      case 0:
        v = value(j);
        pop();
        told[6] = v;
        if (j.target != null) set(jobs.get(jobs.size() - 1), j.target, v);
        break;
      case 1: give(value(j)); break;
      case 2: printString(value(j)); break;
      case 3: push(4, value(j)); break;
      case 4:
        v = value(j);
        w = value(j);
        system = v >= 0 && v <= 2 ? v : 0;
        systemWith = w;
        break;
      case 5: tellTree(value(j)); break;
      case 6: {
        v = value(j);
        int n = next(j);
        if (n > 4) throw new Fault(6);
        int[] with = new int[n];
        for (int i = 0; i < n; i++) with[i] = value(j);
        t = target(j);
        callFunction(v, t, with);
        break;
      }
      case 7: v = value(j); set(j, target(j), v); break;
      case 8: v = value(j); w = value(j); set(j, target(j), (int) ((long) v + w)); break;
      case 9: v = value(j); w = value(j); set(j, target(j), (int) ((long) v - w)); break;
      case 10: v = value(j); jump(j, v == 0); break;
      case 11: v = value(j); jump(j, v != 0); break;
      case 12: v = value(j); w = value(j); jump(j, v < w); break;
      case 13: v = value(j); t = target(j); set(j, t, readByte(v)); break;
      case 14: v = value(j); t = target(j); set(j, t, four(v)); break;
      case 15:
        v = value(j);
        w = value(j);
        if (v < border || v > 4095) throw new Fault(7);
        memory[v] = w & 255;
        break;
      case 16: set(j, target(j), treeAt); break;
      case 17: jobs.clear(); break;
      default: throw new Fault(6);
    }
  }

  // ---- packing

  private static final class Piece {
    int kind;
    int address;
    List<Integer> signs;
    int bits = NONE;
  }

  private static final class Text {
    List<Integer> signs;
    int place = NONE;
    int bits = 0;
  }

  /** A tree of the best one: a leaf has a piece's number, or NONE for the end. */
  private static final class Knot {
    int uses;
    int piece;
    Knot zero;
    Knot one;
    String code;
  }

  private final List<Piece> pieces = new ArrayList<>();
  private final List<Text> texts = new ArrayList<>();
  private int endBits = NONE;

  int sign(int c) {
    if (line.size() == 120) return FULL;
    line.add(c);
    return line.size();
  }

  int piece(int kind) {
    List<Integer> row = line;
    line = new ArrayList<>();
    boolean isByte = kind == 2 || kind == 3;
    boolean isThing = kind == 8 || kind == 9;
    if (!isByte && !isThing && kind != 4 && kind != 5) return BAD;
    boolean isRow = kind == 3 || kind == 5;
    if (isRow ? row.size() < 2 || row.size() > 20 : row.size() != 1) return BAD;
    for (int c : row) {
      if (!isThing && (c == 0 || isByte && (c < 1 || c > 255))) return BAD;
    }
    if (pieces.size() == 60) return FULL;
    Piece p = new Piece();
    p.kind = kind;
    p.signs = isThing ? List.of(-1000 - pieces.size()) : row;
    p.address = row.get(0);
    pieces.add(p);
    return pieces.size() - 1;
  }

  int text() {
    List<Integer> row = line;
    line = new ArrayList<>();
    if (part(row) == null) return NO;
    if (texts.size() == 20) return FULL;
    Text t = new Text();
    t.signs = row;
    texts.add(t);
    return texts.size() - 1;
  }

  /** The best of all ways, compared as rows of lengths, those of numbers last; null: there is none. */
  private List<Integer> part(List<Integer> row) {
    List<List<Integer>> best = new ArrayList<>();
    for (int i = 0; i <= row.size(); i++) best.add(null);
    best.set(row.size(), List.of());
    for (int i = row.size() - 1; i >= 0; i--) {
      for (int p = 0; p < pieces.size(); p++) {
        List<Integer> signs = pieces.get(p).signs;
        int end = i + signs.size();
        if (end > row.size() || best.get(end) == null || !row.subList(i, end).equals(signs)) continue;
        List<Integer> way = new ArrayList<>(List.of(p));
        way.addAll(best.get(end));
        if (best.get(i) == null || isBetter(way, best.get(i))) best.set(i, way);
      }
    }
    return best.get(0);
  }

  private boolean isBetter(List<Integer> a, List<Integer> b) {
    if (a.size() != b.size()) return a.size() < b.size();
    for (int i = 0; i < a.size(); i++) {
      int la = pieces.get(a.get(i)).signs.size();
      int lb = pieces.get(b.get(i)).signs.size();
      if (la != lb) return la > lb;
    }
    for (int i = 0; i < a.size(); i++) {
      if (!a.get(i).equals(b.get(i))) return a.get(i) < b.get(i);
    }
    return false;
  }

  int tree(int at) {
    if (at < 0) return BAD;
    if (texts.isEmpty()) return NO;
    Knot root = best();
    Map<Integer, String> codes = new HashMap<>();
    tellCodes(root, "", codes);
    List<Integer> bytes = new ArrayList<>();
    List<Integer> nodes = new ArrayList<>();
    int count = layNodes(root, at + 12, nodes);
    addFour(bytes, 12 + nodes.size());
    addFour(bytes, count);
    addFour(bytes, at + 12);
    bytes.addAll(nodes);
    int[] places = new int[texts.size()];
    int[] lengths = new int[texts.size()];
    int all = 0;
    for (int k = 0; k < texts.size(); k++) {
      StringBuilder bits = new StringBuilder();
      for (int p : part(texts.get(k).signs)) bits.append(codes.get(p));
      bits.append(codes.get(NONE));
      places[k] = at + bytes.size();
      lengths[k] = bits.length();
      all += bits.length();
      bytes.add(225);
      while (bits.length() % 8 != 0) bits.append('0');
      for (int i = 0; i < bits.length(); i += 8) {
        bytes.add(Integer.parseInt(new StringBuilder(bits.substring(i, i + 8)).reverse().toString(), 2));
      }
    }
    if ((long) at + bytes.size() > 4096) return FULL;
    for (int i = 0; i < bytes.size(); i++) tellByte(at + i, bytes.get(i));
    for (int k = 0; k < texts.size(); k++) {
      texts.get(k).place = places[k];
      texts.get(k).bits = lengths[k];
    }
    endBits = codes.get(NONE).length();
    for (int p = 0; p < pieces.size(); p++) {
      if (codes.containsKey(p)) pieces.get(p).bits = codes.get(p).length();
    }
    return all;
  }

  private Knot best() {
    int[] uses = new int[pieces.size()];
    for (Text t : texts) {
      for (int p : part(t.signs)) uses[p]++;
    }
    List<Knot> order = new ArrayList<>();
    for (int p = -1; p < pieces.size(); p++) {
      Knot k = new Knot();
      k.piece = p;
      k.uses = p < 0 ? texts.size() : uses[p];
      if (k.uses > 0) order.add(k);
    }
    while (order.size() > 1) {
      Knot k = new Knot();
      k.zero = takeLeast(order);
      k.one = takeLeast(order);
      k.uses = k.zero.uses + k.one.uses;
      order.add(k);
    }
    return order.get(0);
  }

  private static Knot takeLeast(List<Knot> order) {
    int least = order.stream().mapToInt(k -> k.uses).min().getAsInt();
    for (Knot k : order) {
      if (k.uses == least) {
        order.remove(k);
        return k;
      }
    }
    throw new IllegalStateException();
  }

  private static void tellCodes(Knot k, String code, Map<Integer, String> codes) {
    if (k.zero == null) {
      codes.put(k.piece, code);
    } else {
      tellCodes(k.zero, code + "0", codes);
      tellCodes(k.one, code + "1", codes);
    }
  }

  /** Lays a knot and all behind it at the row's end, which is at an address less what is there: how many nodes. */
  private int layNodes(Knot k, int start, List<Integer> row) {
    if (k.zero == null) {
      layLeaf(k.piece, row);
      return 1;
    }
    List<Integer> zero = new ArrayList<>();
    int here = start + row.size();
    int n = layNodes(k.zero, here + 9, zero);
    List<Integer> one = new ArrayList<>();
    n += layNodes(k.one, here + 9 + zero.size(), one);
    row.add(0);
    addFour(row, here + 9);
    addFour(row, here + 9 + zero.size());
    row.addAll(zero);
    row.addAll(one);
    return n + 1;
  }

  private void layLeaf(int piece, List<Integer> row) {
    if (piece < 0) {
      row.add(1);
      return;
    }
    Piece p = pieces.get(piece);
    row.add(p.kind);
    if (p.kind >= 8) {
      addFour(row, p.address);
      return;
    }
    for (int c : p.signs) {
      if (p.kind <= 3) row.add(c);
      else addFour(row, c);
    }
    if (p.kind == 3) row.add(0);
    if (p.kind == 5) addFour(row, 0);
  }

  private static void addFour(List<Integer> row, int v) {
    for (int s = 24; s >= 0; s -= 8) row.add(v >> s & 255);
  }

  int laid(int k, int what) {
    if (k < 0 || k >= texts.size() || what < 0 || what > 2) return BAD;
    Text t = texts.get(k);
    return what == 0 ? t.place : what == 1 ? t.bits : part(t.signs).size();
  }

  int bits(int piece) {
    if (piece == NONE) return endBits;
    return piece < 0 || piece >= pieces.size() ? BAD : pieces.get(piece).bits;
  }

  int forget() {
    int n = pieces.size();
    pieces.clear();
    texts.clear();
    return n;
  }

  int[] bytes() {
    return Arrays.copyOf(memory, memory.length);
  }
}
