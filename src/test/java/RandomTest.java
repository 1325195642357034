import java.util.Random;

/** Wild arguments never make a call throw; and steps one by one come to what steps at once come to. */
public final class RandomTest {
  private static final Due due = new Due("RandomTest");

  public static void main(String[] args) {
    for (int run = 0; run < 2000; run++) {
      wild(new Random(run), run);
    }
    for (int run = 0; run < 1500; run++) {
      split(run);
    }
    due.end();
  }

  private static int any(Random random) {
    switch (random.nextInt(5)) {
      case 0: return random.nextInt();
      case 1: return Integer.MAX_VALUE - random.nextInt(20);
      case 2: return Integer.MIN_VALUE + random.nextInt(20);
      case 3: return random.nextInt(4200) - 50;
      default: return random.nextInt(30) - 5;
    }
  }

  private static void wild(Random random, int run) {
    GlulxStrings x = new GlulxStrings();
    try {
      for (int i = 0; i < 510; i++) {
        wildCall(x, random);
      }
    } catch (RuntimeException e) {
      due.is("run " + run + " threw " + e, 1, 0);
    }
  }

  private static int wildCall(GlulxStrings x, Random random) {
    int a = any(random);
    int b = any(random);
    switch (random.nextInt(24)) {
      case 0: return x.feed(random.nextInt(10), random.nextLong() & random.nextLong());
      case 1: return x.load(a);
      case 2: return x.border(a);
      case 3: return x.byteAt(a);
      case 4: return x.table(a);
      case 5: return x.system(a, b);
      case 6: return x.print(a, b);
      case 7: return x.number(a, b);
      case 8: return x.call(a, b);
      case 9: return x.resume(b);
      case 10: return x.stop();
      case 11: return x.jobs();
      case 12: return x.job(a, b);
      case 13: return x.at(a);
      case 14: return x.clear();
      case 15: return x.told(a);
      case 16: return x.sign(a);
      case 17: return x.piece(random.nextInt(12));
      case 18: return x.text();
      case 19: return x.tree(a);
      case 20: return x.laid(a, b);
      case 21: return x.bits(a);
      case 22: return random.nextInt(9) == 0 ? x.forget() : 0;
      default: return x.feed(1, 224 + random.nextInt(3)) + x.load(a) + x.print(a, b);
    }
  }

  /** A memory of bytes that are orders, nodes and addresses in it for the most part. */
  private static GlulxStrings soup(Random random) {
    GlulxStrings x = new GlulxStrings();
    int[] row = new int[250];
    for (int i = 0; i < row.length; i++) {
      row[i] = random.nextInt(3) == 0 ? 0 : random.nextInt(20);
      if (random.nextInt(8) == 0) {
        row[i] = new int[] {192, 193, 224, 225, 226, 255}[random.nextInt(6)];
      }
    }
    row[20] = 225;
    row[40] = 193;
    row[41] = random.nextInt(9);
    Due.put(x, 0, row);
    Due.put(x, 100, Due.four(60, 0, 112));
    Due.put(x, 112, Due.join(Due.b(0), Due.four(random.nextInt(250), random.nextInt(250))));
    x.table(100);
    x.system(random.nextInt(3), 40);
    return x;
  }

  private static void split(int run) {
    GlulxStrings whole = soup(new Random(run));
    GlulxStrings parted = soup(new Random(run));
    int at = run % 2 == 0 ? 20 : 40;
    int once = run % 2 == 0 ? whole.print(at, 200) : whole.call(at, 200);
    int last = run % 2 == 0 ? parted.print(at, 0) : parted.call(at, 0);
    for (int i = 0; i < 200 && last == Due.HELD; i++) {
      last = parted.resume(1);
    }
    // The count of signs is that of the last run alone, so only its kind is compared.
    due.is("run " + run, Math.min(last, 0), Math.min(once, 0));
    for (int what = 0; what < 18; what++) {
      due.is("run " + run + ": told(" + what + ")", parted.told(what), whole.told(what));
    }
    for (int k = 0; k < whole.jobs(); k++) {
      for (int what = 0; what < 18; what++) {
        due.is("run " + run + ": job(" + k + ", " + what + ")", parted.job(k, what), whole.job(k, what));
      }
    }
    for (int i = 0; i < whole.told(12); i++) {
      due.is("run " + run + ": at(" + i + ")", parted.at(i), whole.at(i));
    }
  }
}
