import java.util.ArrayList;
import java.util.List;
import java.util.Random;

/** Random runs of calls, of all promises, on the class and on the Model: each answer is the same. */
public final class ModelTest {
  private static final int RUNS = 3000;
  private static final int CALLS = 480;

  private final Due due;
  private final Random random;
  private final GlulxStrings x = new GlulxStrings();
  private final Model model = new Model();
  private final int run;
  private final int[] seen;
  private int calls = 0;

  private ModelTest(Due due, int run, int[] seen) {
    this.due = due;
    this.run = run;
    this.seen = seen;
    random = new Random(run);
  }

  public static void main(String[] args) {
    Due due = new Due("ModelTest");
    int[] seen = new int[22];
    for (int run = 0; run < RUNS; run++) {
      new ModelTest(due, run, seen).go(run % 3);
    }
    // The runs are worth little if some answer never comes; -6 to -10 and -20 are none.
    for (int answer = 0; answer > -20; answer--) {
      if (answer > -6 || answer < -10) {
        due.is("runs have the answer " + answer, seen[-answer] > 0 ? 1 : 0, 1);
      }
    }
    System.out.println("how often 0, -1, .. -19 were answered: " + java.util.Arrays.toString(seen));
    due.end();
  }

  private void go(int focus) {
    for (int i = 0; i < 10; i++) {
      fill();
    }
    while (calls < CALLS) {
      int pick = random.nextInt(100);
      if (pick < 30) {
        state();
      } else if (focus == 1 ? pick < 90 : pick < 50) {
        pack();
      } else if (pick < 60) {
        fill();
      } else {
        start();
      }
    }
    for (int i = 0; i < 4096; i++) {
      if (x.byteAt(i) != model.byteAt(i)) {
        same("byteAt(" + i + ")", x.byteAt(i), model.byteAt(i));
      }
    }
  }

  private void same(String call, int got, int want) {
    calls++;
    if (got <= 0 && got > -20) {
      seen[-got]++;
    }
    due.is("run " + run + ", call " + calls + ": " + call, got, want);
  }

  private int pick(int... of) {
    return of[random.nextInt(of.length)];
  }

  private int odd() {
    return pick(0, -1, 1, -2, 4095, 4096, 4097, 4092, Integer.MAX_VALUE, Integer.MIN_VALUE, random.nextInt());
  }

  /** An address where strings lie, or functions, for the most part. */
  private int address() {
    return random.nextBoolean() ? stringAddress() : functionAddress();
  }

  private int stringAddress() {
    return random.nextInt(80) == 0 ? odd() : 600 + 40 * random.nextInt(5);
  }

  private int functionAddress() {
    return random.nextInt(50) == 0 ? odd() : 1000 + 80 * random.nextInt(6);
  }

  private int steps() {
    return random.nextInt(20) == 0 ? pick(-1, 100001, 100000, 3000) : random.nextInt(8) == 0 ? 0 : random.nextInt(40);
  }

  private int smallSign() {
    return random.nextInt(20) == 0 ? pick(0, -1, 256, 70000, -1000, -1003) : 97 + random.nextInt(4);
  }

  // ---- what is put into memory

  private void fill() {
    List<Integer> row = new ArrayList<>();
    int at;
    switch (random.nextInt(3)) {
      case 0: at = stringAddress(); string(row); break;
      case 1: at = functionAddress(); function(row); break;
      default: at = pick(100, 220, 340, 4000); tree(row, at); break;
    }
    if (random.nextInt(10) == 0) {
      row.set(random.nextInt(row.size()), random.nextInt(256));
    }
    put(row, at);
  }

  private void put(List<Integer> row, int at) {
    for (int i = 0; i < row.size() && calls < CALLS; i += 8) {
      int n = Math.min(8, row.size() - i);
      long w = random.nextInt(256);
      for (int k = 0; k < n; k++) {
        w = w << 8 | row.get(i + k) & 255;
      }
      same("feed(" + n + ", " + w + ")", x.feed(n, w), model.feed(n, w));
    }
    same("load(" + at + ")", x.load(at), model.load(at));
  }

  private static void four(List<Integer> row, int v) {
    for (int s = 24; s >= 0; s -= 8) {
      row.add(v >> s & 255);
    }
  }

  private void string(List<Integer> row) {
    int kind = pick(224, 225, 225, 225, 226);
    row.add(kind);
    if (kind == 226) {
      row.add(7);
      row.add(7);
      row.add(7);
    }
    int n = random.nextInt(6);
    for (int i = 0; i < n; i++) {
      if (kind == 226) {
        four(row, smallSign());
      } else {
        row.add(random.nextInt(256));
      }
    }
    for (int i = 0; i < 4; i++) {
      row.add(0);
    }
  }

  private void value(List<Integer> row) {
    switch (random.nextInt(40) == 0 ? 9 : random.nextInt(6)) {
      case 0: row.add(0); break;
      case 1: row.add(1); row.add(random.nextInt(256)); break;
      case 2: row.add(1); row.add(random.nextInt(4)); break;
      case 3: row.add(2); four(row, address()); break;
      case 9: row.add(random.nextInt(256)); break;
      default: row.add(3); row.add(random.nextInt(60) == 0 ? 9 : random.nextInt(2)); break;
    }
  }

  private void target(List<Integer> row) {
    row.add(random.nextInt(60) == 0 ? 8 : pick(0, 1, 255));
  }

  private void function(List<Integer> row) {
    row.add(pick(192, 193));
    row.add(random.nextInt(40) == 0 ? 9 : 2 + random.nextInt(7));
    int n = random.nextInt(7);
    for (int i = 0; i < n; i++) {
      order(row);
    }
    row.add(0);
    value(row);
  }

  private void order(List<Integer> row) {
    int o = random.nextInt(80) == 0 ? random.nextInt(256) : pick(1, 1, 1, 2, 2, 3, 4, 5, 6, 6, 7, 8, 9, 10, 11, 12, 13, 14, 15, 16, 17, 0);
    row.add(o);
    if (o == 4) {
      row.add(1);
      row.add(random.nextInt(10) == 0 ? 3 : random.nextInt(3));
      row.add(2);
      four(row, functionAddress());
    } else if (o == 2 || o == 5 || o == 6 || o >= 13 && o <= 15) {
      row.add(2);
      four(row, o == 2 ? stringAddress() : o == 5 ? pick(100, 220, 340, 0) : o == 6 ? functionAddress() : address());
    } else if (o <= 12) {
      value(row);
    }
    if (o == 6) {
      int n = random.nextInt(40) == 0 ? 5 : random.nextInt(5);
      row.add(n);
      for (int i = 0; i < n; i++) {
        value(row);
      }
    }
    if (o == 8 || o == 9 || o == 12 || o == 15) {
      value(row);
    }
    if (o >= 6 && o <= 9 || o == 13 || o == 14 || o == 16) {
      target(row);
    }
    if (o >= 10 && o <= 12) {
      int d = random.nextInt(12) - 4;
      row.add(d >> 8);
      row.add(d);
    }
  }

  private void leaf(List<Integer> row) {
    int kind = random.nextInt(50) == 0 ? random.nextInt(256) : pick(1, 2, 2, 3, 4, 5, 8, 8, 9, 10, 10, 11);
    row.add(kind);
    if (kind == 2) {
      row.add(smallSign());
    } else if (kind == 3) {
      row.add(65);
      row.add(66);
      row.add(0);
    } else if (kind == 4 || kind == 5) {
      four(row, smallSign());
      if (kind == 5) {
        four(row, 0);
      }
    } else if (kind >= 8) {
      four(row, address());
    }
    if (kind >= 10) {
      int n = random.nextInt(20) == 0 ? pick(-1, 5) : random.nextInt(5);
      four(row, n);
      for (int i = 0; i < n; i++) {
        four(row, random.nextInt(9));
      }
    }
  }

  /** A head, then branches whose nodes are those behind them, but for some. */
  private void tree(List<Integer> row, int at) {
    four(row, 0);
    four(row, 0);
    four(row, random.nextInt(30) == 0 ? odd() : at + 12);
    int branches = random.nextInt(6);
    List<Integer> leaves = new ArrayList<>();
    int[] places = new int[branches + 1];
    for (int i = 0; i <= branches; i++) {
      places[i] = at + 12 + 9 * branches + leaves.size();
      leaf(leaves);
    }
    for (int i = 0; i < branches; i++) {
      int next = i + 1 < branches ? at + 12 + 9 * (i + 1) : places[branches];
      int there = random.nextInt(30) == 0 ? odd() : random.nextInt(30) == 0 ? at + 12 : next;
      boolean turned = random.nextBoolean();
      row.add(0);
      four(row, turned ? there : places[i]);
      four(row, turned ? places[i] : there);
    }
    row.addAll(leaves);
    int size = row.size() + (random.nextInt(5) == 0 ? pick(-1, -4, 1, 200, 5000, -row.size()) : 0);
    List<Integer> head = new ArrayList<>();
    four(head, size);
    for (int i = 0; i < 4; i++) {
      row.set(i, head.get(i));
    }
  }

  // ---- calls

  private void start() {
    int at = functionAddress();
    int steps = steps();
    switch (random.nextInt(12)) {
      case 0: case 1: case 2:
        at = stringAddress();
        same("print(" + at + ", " + steps + ")", x.print(at, steps), model.print(at, steps)); break;
      case 3: case 4: case 5:
        same("call(" + at + ", " + steps + ")", x.call(at, steps), model.call(at, steps)); break;
      case 6: {
        int v = pick(random.nextInt(), odd(), 305, -305);
        same("number(" + v + ", " + steps + ")", x.number(v, steps), model.number(v, steps)); break;
      }
      case 7: {
        int v = random.nextInt(20) == 0 ? pick(-1, 3) : pick(0, 1, 2, 2, 2);
        same("system(" + v + ", " + at + ")", x.system(v, at), model.system(v, at)); break;
      }
      case 8: {
        int t = random.nextInt(5) == 0 ? at : pick(100, 220, 340, 4000, 2000);
        same("table(" + t + ")", x.table(t), model.table(t)); break;
      }
      case 9: {
        int n = random.nextInt(5) == 0 ? odd() : pick(4096, 1000, 400, 0, 130 + random.nextInt(60));
        same("border(" + n + ")", x.border(n), model.border(n)); break;
      }
      default:
        same("resume(" + steps + ")", x.resume(steps), model.resume(steps)); break;
    }
  }

  private void state() {
    int k = random.nextInt(50) == 0 ? odd() : random.nextInt(4);
    int what = random.nextInt(50) == 0 ? odd() : pick(0, 1, 2, 3, 4, 10, 11, 12, 5);
    switch (random.nextInt(10)) {
      case 0: case 1: case 2: {
        int t = random.nextInt(50) == 0 ? odd() : random.nextInt(18);
        same("told(" + t + ")", x.told(t), model.told(t)); break;
      }
      case 3: case 4: case 5: same("job(" + k + ", " + what + ")", x.job(k, what), model.job(k, what)); break;
      case 6: same("jobs()", x.jobs(), model.jobs()); break;
      case 7: {
        int i = random.nextInt(50) == 0 ? odd() : random.nextInt(Math.max(1, x.told(12) + 1));
        same("at(" + i + ")", x.at(i), model.at(i)); break;
      }
      case 8:
        if (random.nextInt(4) == 0) {
          same("clear()", x.clear(), model.clear());
        } else {
          same("stop()", x.stop(), model.stop());
        }
        break;
      default: same("byteAt(" + k + ")", x.byteAt(k), model.byteAt(k)); break;
    }
  }

  private void line(int most) {
    int n = random.nextInt(most + 1);
    for (int i = 0; i < n && calls < CALLS; i++) {
      int c = smallSign();
      same("sign(" + c + ")", x.sign(c), model.sign(c));
    }
  }

  private void pack() {
    int k = random.nextInt(20) == 0 ? odd() : random.nextInt(6);
    switch (random.nextInt(12)) {
      case 0: case 1: case 2: {
        int kind = random.nextInt(20) == 0 ? random.nextInt(12) : pick(2, 2, 3, 3, 4, 5, 8, 9);
        boolean row = kind == 3 || kind == 5;
        if (x.told(14) == 0) {
          same("sign(97)", x.sign(97), model.sign(97));
        }
        line(row ? 3 : 0);
        same("piece(" + kind + ")", x.piece(kind), model.piece(kind)); break;
      }
      case 3: {
        int c = 97 + random.nextInt(4);
        same("sign(" + c + ")", x.sign(c), model.sign(c));
        same("piece(2)", x.piece(2), model.piece(2)); break;
      }
      case 4: case 5: case 6:
        line(random.nextInt(5) == 0 ? 40 : 8);
        same("text()", x.text(), model.text()); break;
      case 7: case 8: {
        int at = random.nextInt(8) == 0 ? odd() : pick(100, 220, 2000, 3900);
        same("tree(" + at + ")", x.tree(at), model.tree(at)); break;
      }
      case 9: {
        int what = random.nextInt(20) == 0 ? odd() : random.nextInt(3);
        same("laid(" + k + ", " + what + ")", x.laid(k, what), model.laid(k, what)); break;
      }
      case 10: same("bits(" + (k - 1) + ")", x.bits(k - 1), model.bits(k - 1)); break;
      default:
        if (random.nextInt(8) == 0) {
          same("forget()", x.forget(), model.forget());
        } else {
          printLaid(k);
        }
        break;
    }
  }

  private void printLaid(int k) {
    int at = x.laid(k, 0);
    if (at >= 0) {
      same("table(2000)", x.table(2000), model.table(2000));
      same("print(" + at + ", 500)", x.print(at, 500), model.print(at, 500));
    }
  }
}
