/**
 * Arguments of any int at all, the smallest and the largest too, in every call: what can't be is answered by NONE or
 * REFUSED, and changes nothing.
 */
public final class NumberEdgesTest {
  private static final Check check = new Check();
  private static final int NONE = MoodSlips.NONE;

  /** A call with up to five numbers. */
  private interface Call {
    int on(MoodSlips x, int[] n);
  }

  /** What a number of a call can be: from low to high. */
  private record Range(int low, int high) {
    boolean has(int n) {
      return n >= low && n <= high;
    }
  }

  private static final Range SLIP = new Range(0, 2);
  private static final Range ASKED = new Range(NONE, 2);
  private static final Range HEAP = new Range(0, 7);
  private static final Range KIND = new Range(0, 7);
  private static final Range MOOD = new Range(0, 3);
  private static final Range PART = new Range(0, 1);
  private static final Range THIRD = new Range(0, 2);

  private static int[] numbers(int... n) {
    return n;
  }

  private static Range[] ranges(Range... r) {
    return r;
  }

  /** Three slips, a question, one that is bound to three, a riddle, an image. */
  private static MoodSlips full() {
    MoodSlips x = Texts.asking("all a are c", "all a are b", "all b are c", "some d are a");
    x.posit();
    x.propose();
    x.propose();
    x.riddle(0, 3);
    x.image(0);
    Texts.feed(x, "w is a");
    return x;
  }

  /** All that may change, as a text. */
  private static String state(MoodSlips x) {
    StringBuilder b = new StringBuilder();
    for (int what = 0; what < 5; what++) b.append(x.count(what)).append(',');
    for (int slip = -1; slip < 3; slip++) b.append(Texts.written(x, slip)).append(',');
    for (int i = 0; i < 4; i++) b.append(x.bound(i)).append(x.drawn(i, 0)).append(x.drawn(i, 1)).append(x.drawn(i, 2)).append(',');
    b.append(x.quarrel(-1)).append(x.least(2)).append(x.derive(0)).append(x.fault());
    return b.toString();
  }

  /** The smallest, the largest, those that come to n when bits are cut off, and those beside the range. */
  private static int[] odd(int n, Range r) {
    return numbers(Integer.MIN_VALUE, Integer.MIN_VALUE + 1, Integer.MIN_VALUE + n, Integer.MAX_VALUE, Integer.MAX_VALUE - 1,
      n + (1 << 30), n + (1 << 16), n + (1 << 8), n + 32, n - 32, n - 256, n - (1 << 16), ~n, -n - 2, r.low - 1, r.low - 2, r.high + 1,
      r.high + 2, 2 * r.high + 2, 1000003, -1000003);
  }

  /** The call is fine with the numbers n; each number that can't be is answered as due, and nothing changes. */
  private static void refuses(int promise, String name, int due, Call call, int[] n, Range[] ranges) {
    check.sentence(promise, "Arguments of any int at all");
    MoodSlips fine = full();
    check.due(name + " as it can be", call.on(fine, n) == due ? 1 : 0, 0);
    for (int i = 0; i < n.length; i++)
      for (int odd : odd(n[i], ranges[i])) {
        int[] with = n.clone();
        with[i] = odd;
        MoodSlips x = full();
        String before = state(x);
        int answer = call.on(x, with);
        if (ranges[i].has(odd)) continue;
        String at = name + ", number " + i + " is " + odd;
        check.due(at, answer, due);
        check.due(at + ": what stands", state(x), before);
      }
  }

  private static void tape() {
    check.sentence(2, "Arguments of any int at all");
    for (int i = 0; i < 5; i++)
      for (int odd : odd(0, new Range(0, 255))) {
        int[] n = new int[5];
        n[i] = odd;
        MoodSlips x = new MoodSlips();
        check.due("feed, number " + i + " is " + odd, x.feed(n[0], n[1], n[2], n[3], n[4]), 20);
      }
    refuses(3, "end", NONE, (x, n) -> x.end(n[0]), numbers(6), ranges(new Range(0, 6)));
  }

  private static void slips() {
    refuses(7, "write", -2, (x, n) -> x.write(n[0]), numbers(1), ranges(SLIP));
    refuses(8, "take", -2, (x, n) -> x.take(n[0]), numbers(1), ranges(SLIP));
    refuses(9, "existence", -1, (x, n) -> x.existence(n[0]), numbers(1), ranges(PART));
    refuses(10, "of", NONE, (x, n) -> x.of(n[0], n[1]), numbers(0, 5), ranges(ASKED, new Range(0, 5)));
    refuses(11, "has", NONE, (x, n) -> x.has(n[0], n[1]), numbers(0, 1), ranges(ASKED, new Range(0, 255)));
    refuses(12, "letter", NONE, (x, n) -> x.letter(n[0], n[1]), numbers(0, 5), ranges(ASKED, new Range(NONE, 10)));
  }

  private static void heaps() {
    refuses(13, "quarrels", NONE, (x, n) -> x.quarrels(n[0]), numbers(7), ranges(HEAP));
    refuses(14, "follows", NONE, (x, n) -> x.follows(n[0]), numbers(7), ranges(HEAP));
    refuses(15, "denied", NONE, (x, n) -> x.denied(n[0]), numbers(7), ranges(HEAP));
    refuses(16, "open", NONE, (x, n) -> x.open(n[0]), numbers(7), ranges(HEAP));
    refuses(17, "idle", NONE, (x, n) -> x.idle(n[0]), numbers(7), ranges(HEAP));
    refuses(18, "least", NONE, (x, n) -> x.least(n[0]), numbers(2), ranges(THIRD));
    refuses(19, "quarrel", NONE, (x, n) -> x.quarrel(n[0]), numbers(NONE), ranges(new Range(NONE, NONE)));
    refuses(20, "calm", NONE, (x, n) -> x.calm(n[0]), numbers(1), ranges(THIRD));
    refuses(21, "hint", NONE, (x, n) -> x.hint(n[0]), numbers(3), ranges(HEAP));
    refuses(22, "between", NONE, (x, n) -> x.between(n[0], n[1], n[2]), numbers(7, 0, 2), ranges(HEAP, KIND, KIND));
    refuses(23, "square", NONE, (x, n) -> x.square(n[0], n[1]), numbers(0, 2), ranges(SLIP, SLIP));
    refuses(24, "says", NONE, (x, n) -> x.says(n[0], n[1], n[2], n[3]), numbers(7, 3, 0, 7), ranges(HEAP, MOOD, KIND, KIND));
    refuses(25, "all", NONE, (x, n) -> x.all(n[0], n[1]), numbers(7, 0), ranges(HEAP, MOOD));
    refuses(26, "world", NONE, (x, n) -> x.world(n[0], n[1]), numbers(0, 0), ranges(HEAP, new Range(NONE, 0)));
    refuses(27, "name", NONE, (x, n) -> x.name(n[0], n[1], n[2]), numbers(7, 3, 1), ranges(HEAP, new Range(0, 3), PART));
  }

  private static void moods() {
    refuses(28, "pair", NONE, (x, n) -> x.pair(n[0], n[1], n[2]), numbers(1, 0, 2), ranges(SLIP, SLIP, new Range(0, 4)));
    refuses(29, "wrong", NONE, (x, n) -> x.wrong(n[0], n[1], n[2]), numbers(1, 0, 3), ranges(SLIP, SLIP, MOOD));
    refuses(30, "derived", NONE, (x, n) -> x.derived(n[0], n[1], n[2]), numbers(0, 0, 2), ranges(MOOD, KIND, KIND));
    refuses(31, "by", NONE, (x, n) -> x.by(n[0], n[1], n[2], n[3]), numbers(0, 0, 2, 1), ranges(MOOD, KIND, KIND, PART));
    refuses(31, "by, 2", NONE, (x, n) -> x.by(n[0], n[1], n[2], n[3]), numbers(2, 3, 2, 0), ranges(MOOD, KIND, KIND, PART));
    refuses(32, "derive", NONE, (x, n) -> x.derive(n[0]), numbers(1), ranges(PART));
  }

  private static void games() {
    refuses(35, "bound", NONE, (x, n) -> x.bound(n[0]), numbers(2), ranges(new Range(NONE, 2)));
    refuses(36, "riddle", -1, (x, n) -> x.riddle(n[0], n[1]), numbers(7, 5), ranges(new Range(0, 1000000), new Range(0, 12)));
    refuses(37, "drawn", NONE, (x, n) -> x.drawn(n[0], n[1]), numbers(1, 2), ranges(new Range(NONE, 2), THIRD));
    refuses(37, "drawn, all", NONE, (x, n) -> x.drawn(n[0], n[1]), numbers(NONE, 1), ranges(new Range(NONE, 2), PART));
    refuses(38, "image", -1, (x, n) -> x.image(n[0]), numbers(1), ranges(PART));
    refuses(39, "back", -1, (x, n) -> x.back(n[0]), numbers(0), ranges(PART));
    refuses(40, "count", NONE, (x, n) -> x.count(n[0]), numbers(9), ranges(new Range(0, 9)));
  }

  public static void main(String[] args) {
    tape();
    slips();
    heaps();
    moods();
    games();
    check.finish();
  }
}
