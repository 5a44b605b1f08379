import java.util.BitSet;
import java.util.Random;

/**
 * Random slips and questions against all worlds there are of few kinds and names, counted out one by one:
 * promises 7 to 27, 33 to 35, 38, 39.
 */
public final class WorldsTest {
  private static final Check check = new Check();

  /** A term by the row of its truth in each small region, and its text. */
  private record Term(int regions, String text, int rank) {
  }

  private record Said(String text, BitSet told, BitSet untold, int says, int set, int name) {
  }

  private final Random random;
  private final int[] kinds;
  private final int used;
  private final int names;
  private final int regions;
  private int[] worldThings;
  private int[] worldNames;
  private int worlds;
  private Said[] simple = new Said[256];

  private WorldsTest(long seed, int[] kinds, int used, int names) {
    this.random = new Random(seed);
    this.kinds = kinds;
    this.used = used;
    this.names = names;
    this.regions = 1 << kinds.length;
    listWorlds();
    for (int mood = 0; mood < 4; mood++)
      for (int s = 0; s < kinds.length; s++)
        for (int p = 0; p < kinds.length; p++)
          if (s != p) simple[mood * 64 + s * 8 + p] = simpleSaid(mood, s, p);
  }

  private void listWorlds() {
    int most = 0;
    for (int things = 1; things < 1L << regions; things++) most += power(Integer.bitCount(things), names);
    worldThings = new int[most];
    worldNames = new int[most];
    int all = power(regions, names);
    for (int things = 1; things < 1L << regions; things++)
      for (int code = 0; code < all; code++) {
        boolean can = true;
        for (int n = 0; n < names; n++) can &= (things >> placeOf(code, n) & 1) != 0;
        if (can) {
          worldThings[worlds] = things;
          worldNames[worlds++] = code;
        }
      }
  }

  private static int power(int b, int e) {
    return e == 0 ? 1 : b * power(b, e - 1);
  }

  private int placeOf(int code, int name) {
    return code / power(regions, name) % regions;
  }

  private int everywhere() {
    return regions == 32 ? -1 : (1 << regions) - 1;
  }

  private int kindRow(int kind) {
    int row = 0;
    for (int r = 0; r < regions; r++) if ((r >> kind & 1) != 0) row |= 1 << r;
    return row;
  }

  /** rank 0: a kind or brackets, 1: with not, 2: who are, 3: or. */
  private Term term(int depth) {
    int pick = depth <= 0 ? 0 : random.nextInt(6);
    if (pick == 3) {
      Term t = asPlain(term(depth - 1));
      return new Term(everywhere() & ~t.regions, "not " + t.text, 1);
    }
    if (pick == 4) {
      Term a = term(depth - 1);
      Term b = asPlain(term(depth - 1));
      if (a.rank > 2) a = bracketed(a);
      return new Term(a.regions & b.regions, a.text + " who are " + b.text, 2);
    }
    if (pick == 5) {
      Term a = term(depth - 1);
      Term b = term(depth - 1);
      if (b.rank > 2) b = bracketed(b);
      return new Term(a.regions | b.regions, a.text + " or " + b.text, 3);
    }
    int kind = random.nextInt(used);
    return new Term(kindRow(kind), "" + (char) ('a' + kinds[kind]), 0);
  }

  private Term asPlain(Term t) {
    return t.rank > 1 ? bracketed(t) : t;
  }

  private Term bracketed(Term t) {
    return new Term(t.regions, "(" + t.text + ")", 0);
  }

  private Said said(String text, int says, int set, int subject, int name) {
    BitSet untold = new BitSet(worlds);
    BitSet told = new BitSet(worlds);
    for (int w = 0; w < worlds; w++) {
      boolean so;
      if (says == 0) so = (worldThings[w] & set) == 0;
      else if (says == 1) so = (worldThings[w] & set) != 0;
      else so = (set >> placeOf(worldNames[w], name) & 1) != 0;
      untold.set(w, so);
      told.set(w, so && (subject == 0 || (worldThings[w] & subject) != 0));
    }
    return new Said(text, told, untold, says, set, name);
  }

  /** Of a subject that is no region at all nothing can be: then it is never so, if existence is told. */
  private Said saidOf(String text, int set, int subject) {
    Said s = said(text, 0, set, subject, -1);
    if (subject == 0) s.told.clear();
    return s;
  }

  private Said simpleSaid(int mood, int s, int p) {
    int a = kindRow(s);
    int b = kindRow(p);
    int set = mood == 0 || mood == 3 ? a & ~b : a & b;
    return mood < 2 ? saidOf("", set, a) : said("", 1, set, 0, -1);
  }

  private Said sentence() {
    int depth = random.nextInt(3);
    Term a = term(depth);
    Term b = term(depth);
    int all = everywhere();
    switch (random.nextInt(names > 0 ? 11 : 8)) {
      case 0: return saidOf("all " + a.text + " are " + b.text, a.regions & ~b.regions, a.regions);
      case 1: return saidOf("no " + a.text + " are " + b.text, a.regions & b.regions, a.regions);
      case 2: return said("some " + a.text + " are " + (b.text.startsWith("not") ? "(" + b.text + ")" : b.text), 1,
        a.regions & b.regions, 0, -1);
      case 3: return said("some " + a.text + " are not " + b.text, 1, a.regions & ~b.regions, 0, -1);
      case 4: return saidOf("only " + a.text + " are " + b.text, b.regions & ~a.regions, b.regions);
      case 5: return saidOf("none but " + a.text + " are " + b.text, b.regions & ~a.regions, b.regions);
      case 6: return said("there are " + a.text, 1, a.regions, 0, -1);
      case 7: return said("there are no " + a.text, 0, a.regions, 0, -1);
      default:
        int name = random.nextInt(names);
        String who = (char) ('w' + name) + " is ";
        if (random.nextBoolean())
          return said(who + (a.text.startsWith("not") ? "(" + a.text + ")" : a.text), 2, a.regions, 0, name);
        return said(who + "not " + a.text, 2, all & ~a.regions, 0, name);
    }
  }

  // ---- what is due ----

  private boolean isTold;
  private Said[] slips = new Said[12];
  private int count;
  private Said asked;
  private BitSet bound;
  private int boundCount;

  private BitSet truth(Said s) {
    return isTold ? s.told : s.untold;
  }

  private BitSet fitting(int heap) {
    BitSet b = new BitSet(worlds);
    b.set(0, worlds);
    for (int i = 0; i < count; i++) if ((heap >> i & 1) != 0) b.and(truth(slips[i]));
    return b;
  }

  private static boolean within(BitSet a, BitSet b) {
    BitSet c = (BitSet) a.clone();
    c.andNot(b);
    return c.isEmpty();
  }

  private int real(int region) {
    int r = 0;
    for (int k = 0; k < kinds.length; k++) if ((region >> k & 1) != 0) r |= 1 << kinds[k];
    return r;
  }

  private void checkHeap(MoodSlips x, int heap, String at) {
    BitSet fit = fitting(heap);
    check.due(at + "quarrels", x.quarrels(heap), fit.isEmpty() ? 1 : 0);
    int open = everywhere();
    for (int i = 0; i < count; i++) if ((heap >> i & 1) != 0 && slips[i].says == 0) open &= ~slips[i].set;
    check.due(at + "open", x.open(heap), Integer.bitCount(open) * (256 / regions));
    int idle = 0;
    for (int i = 0; i < count; i++)
      if ((heap >> i & 1) != 0 && within(fitting(heap & ~(1 << i)), truth(slips[i]))) idle |= 1 << i;
    check.due(at + "idle", x.idle(heap), idle);
    for (int n = 0; n < names; n++) {
      int places = 0;
      for (int w = fit.nextSetBit(0); w >= 0; w = fit.nextSetBit(w + 1)) places |= 1 << placeOf(worldNames[w], n);
      check.due(at + "name 0", x.name(heap, n, 0), places == 0 ? -1 : Integer.bitCount(places) * (256 / regions));
      check.due(at + "name 1", x.name(heap, n, 1), places == 0 ? -1 : real(Integer.numberOfTrailingZeros(places)));
    }
    checkSimple(x, heap, fit, at);
    if (asked == null) {
      check.due(at + "follows", x.follows(heap), -1);
      check.due(at + "denied", x.denied(heap), -1);
      check.due(at + "world", x.world(heap, -1), -1);
      return;
    }
    check.due(at + "follows", x.follows(heap), within(fit, truth(asked)) ? 1 : 0);
    check.due(at + "denied", x.denied(heap), fit.intersects(truth(asked)) ? 0 : 1);
    checkWorld(x, heap, fit, at);
  }

  private void checkSimple(MoodSlips x, int heap, BitSet fit, String at) {
    int n = kinds.length;
    int[] totals = new int[4];
    for (int s = 0; s < n; s++)
      for (int p = 0; p < n; p++) {
        if (s == p) continue;
        int bits = 0;
        for (int mood = 0; mood < 4; mood++) {
          boolean so = within(fit, truth(simple[mood * 64 + s * 8 + p]));
          check.due(at + "says", x.says(heap, mood, kinds[s], kinds[p]), so ? 1 : 0);
          if (so) bits |= 1 << mood;
          if (so) totals[mood] += weight(s, p);
        }
        if (within(fit, truth(simple[p * 8 + s]))) bits |= 16;
        if (within(fit, truth(simple[192 + p * 8 + s]))) bits |= 32;
        check.due(at + "between", x.between(heap, kinds[s], kinds[p]), bits);
      }
    if (n > used) {
      int others = 8 - used;
      for (int mood = 0; mood < 4; mood++)
        check.due(at + "all", x.all(heap, mood), totals[mood] + (fit.isEmpty() ? others * (others - 1) : 0));
    }
  }

  /** The last kind stands for all of which nothing is said. */
  private int weight(int s, int p) {
    return s >= used || p >= used ? 8 - used : 1;
  }

  private void checkWorld(MoodSlips x, int heap, BitSet fit, String at) {
    int best = 0;
    for (int w = fit.nextSetBit(0); w >= 0; w = fit.nextSetBit(w + 1)) {
      if (truth(asked).get(w)) continue;
      int things = worldThings[w];
      if (best == 0 || Integer.bitCount(things) < Integer.bitCount(best)
        || Integer.bitCount(things) == Integer.bitCount(best) && isAhead(things, best)) best = things;
    }
    check.due(at + "world -1", x.world(heap, -1), best == 0 ? -1 : Integer.bitCount(best));
    int i = 0;
    for (int r = 0; r < regions; r++)
      if ((best >> r & 1) != 0) check.due(at + "world " + i, x.world(heap, i++), real(r));
    check.due(at + "world " + i, x.world(heap, i), -1);
    check.due(at + "world -2", x.world(heap, -2), -1);
  }

  private boolean isAhead(int things, int other) {
    int differ = things ^ other;
    return differ != 0 && (things & differ & -differ) != 0;
  }

  private void checkFewest(MoodSlips x, String at) {
    int full = (1 << count) - 1;
    int least = -1;
    int ways = 0;
    int which = -1;
    int out = -1;
    int outWays = 0;
    int outWhich = -1;
    int[] quarrels = new int[4096];
    int quarrelCount = 0;
    for (int heap = 0; heap <= full; heap++) {
      BitSet fit = fitting(heap);
      int size = Integer.bitCount(heap);
      if (asked != null && !fit.isEmpty() && within(fit, truth(asked))) {
        if (least < 0 || size < least) {
          least = size;
          ways = 0;
          which = heap;
        }
        if (size == least) ways++;
      }
      if (fit.isEmpty()) {
        boolean isLeast = true;
        for (int i = 0; i < count; i++) if ((heap >> i & 1) != 0 && fitting(heap & ~(1 << i)).isEmpty()) isLeast = false;
        if (isLeast) quarrels[quarrelCount++] = heap;
      }
      if (!fitting(full & ~heap).isEmpty()) {
        if (out < 0 || size < out) {
          out = size;
          outWays = 0;
          outWhich = heap;
        }
        if (size == out) outWays++;
      }
    }
    check.due(at + "least 0", x.least(0), least);
    check.due(at + "least 1", x.least(1), asked == null ? -1 : ways);
    check.due(at + "least 2", x.least(2), which);
    check.due(at + "least 3", x.least(3), -1);
    check.due(at + "quarrel -1", x.quarrel(-1), quarrelCount);
    for (int i = 0; i < quarrelCount; i++) check.due(at + "quarrel " + i, x.quarrel(i), quarrels[i]);
    check.due(at + "quarrel over", x.quarrel(quarrelCount), -1);
    check.due(at + "calm 0", x.calm(0), out);
    check.due(at + "calm 1", x.calm(1), outWays);
    check.due(at + "calm 2", x.calm(2), outWhich);
    check.due(at + "calm -1", x.calm(-1), -1);
  }

  private void checkHint(MoodSlips x, int heap, String at) {
    if (kinds.length <= used) return;
    int due = -1;
    if (asked != null) {
      BitSet fit = fitting(heap);
      int own = x.of(-1, 1) < 0 ? -1 : x.of(-1, 1) * 64 + x.of(-1, 2) * 8 + x.of(-1, 3);
      boolean ready = !fit.isEmpty() && within(fit, truth(asked));
      for (int number = 0; number < 256 && due < 0; number++) {
        int s = small(number >> 3 & 7);
        int p = small(number & 7);
        if ((number >> 3 & 7) == (number & 7) || number == own) continue;
        // Of two kinds that nothing else is said of: it neither helps nor harms.
        if (s == p) {
          if (ready) due = number;
          continue;
        }
        BitSet more = (BitSet) fit.clone();
        more.and(truth(simple[(number >> 6) * 64 + s * 8 + p]));
        if (!more.isEmpty() && within(more, truth(asked))) due = number;
      }
    }
    check.due(at + "hint", x.hint(heap), due);
  }

  private int small(int kind) {
    for (int k = 0; k < used; k++) if (kinds[k] == kind) return k;
    return used;
  }

  private void checkSquare(MoodSlips x, String at) {
    for (int i = 0; i < count; i++)
      for (int j = 0; j < count; j++) {
        BitSet a = truth(slips[i]);
        BitSet b = truth(slips[j]);
        boolean both = a.intersects(b);
        BitSet either = (BitSet) a.clone();
        either.or(b);
        boolean neither = either.cardinality() < worlds;
        int due = 0;
        if (within(a, b) && within(b, a)) due = 1;
        else if (!both && !neither) due = 6;
        else if (!both) due = 4;
        else if (!neither) due = 5;
        else if (within(a, b)) due = 2;
        else if (within(b, a)) due = 3;
        check.due(at + "square", x.square(i, j), due);
      }
  }

  private void checkSaid(MoodSlips x, int slip, Said s, String at) {
    check.due(at + "of 0", x.of(slip, 0), s.says);
    check.due(at + "of 4", x.of(slip, 4), s.name);
    check.due(at + "of 5", x.of(slip, 5), Integer.bitCount(s.set & everywhere()) * (256 / regions));
    for (int r = 0; r < 256; r++) {
      int row = 0;
      for (int k = 0; k < kinds.length; k++) if ((r >> kinds[k] & 1) != 0) row |= 1 << k;
      check.due(at + "has " + r, x.has(slip, r), s.set >> row & 1);
    }
  }

  private void dispute(MoodSlips x, String at) {
    if (bound == null || random.nextInt(4) == 0) {
      boolean can = asked != null && !asked.untold.isEmpty();
      check.due(at + "posit", x.posit(), can ? 0 : -3);
      if (can) {
        bound = (BitSet) asked.untold.clone();
        boundCount = 1;
        check.due(at + "bound 0", x.bound(0), 1);
      }
    } else {
      int due;
      if (asked == null) due = -3;
      else if (boundCount == 12) due = -5;
      else if (within(bound, asked.untold)) due = 1;
      else due = bound.intersects(asked.untold) ? 0 : 2;
      check.due(at + "propose", x.propose(), due);
      if (due > 0) {
        check.due(at + "bound last", x.bound(boundCount), due == 1 ? 1 : 0);
        boundCount++;
      }
    }
    check.due(at + "bound -1", x.bound(-1), boundCount);
    check.due(at + "bound over", x.bound(boundCount), -1);
  }

  private void run(int number, int most) {
    MoodSlips x = new MoodSlips();
    count = 0;
    asked = null;
    isTold = false;
    bound = null;
    boundCount = 0;
    for (int step = 0; step < most; step++) {
      String at = "run " + number + " step " + step + ": ";
      int pick = random.nextInt(8);
      Said s = sentence();
      if (pick < 3 && count < 7) {
        check.due(at + s.text, Texts.slip(x, s.text), count);
        slips[count++] = s;
        checkSaid(x, count - 1, s, at + s.text + ": ");
      } else if (pick < 5) {
        check.due(at + s.text, Texts.question(x, s.text), 0);
        asked = s;
        checkSaid(x, -1, s, at + s.text + ": ");
      } else if (pick == 5) {
        int told = random.nextInt(2);
        check.due(at + "existence", x.existence(told), isTold ? 1 : 0);
        isTold = told == 1;
      } else if (pick == 6 && count > 0) {
        int slip = random.nextInt(count);
        if (random.nextBoolean()) {
          check.due(at + "take", x.take(slip), 0);
          asked = slips[slip];
        } else {
          check.due(at + "write", x.write(slip), asked == null ? -3 : 0);
          if (asked != null) slips[slip] = asked;
        }
      }
      int heap = random.nextInt(1 << count);
      checkHeap(x, heap, at + "heap " + heap + " ");
      if (random.nextInt(3) == 0) checkFewest(x, at);
      if (random.nextInt(3) == 0) checkHint(x, heap, at);
      if (random.nextInt(3) == 0) checkSquare(x, at);
      dispute(x, at);
      if (!check.isWell()) return;
    }
  }

  public static void main(String[] args) {
    WorldsTest named = new WorldsTest(1, new int[] {0, 1, 2}, 3, 2);
    for (int i = 0; i < 60 && check.isWell(); i++) named.run(i, 14);
    WorldsTest high = new WorldsTest(2, new int[] {3, 6, 7}, 3, 1);
    for (int i = 0; i < 60 && check.isWell(); i++) high.run(1000 + i, 14);
    WorldsTest spare = new WorldsTest(3, new int[] {0, 1, 2}, 2, 1);
    for (int i = 0; i < 80 && check.isWell(); i++) spare.run(2000 + i, 14);
    WorldsTest wide = new WorldsTest(4, new int[] {1, 4, 5, 7}, 3, 0);
    for (int i = 0; i < 12 && check.isWell(); i++) wide.run(3000 + i, 10);
    check.finish();
  }
}
