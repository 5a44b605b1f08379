import java.util.Random;

/**
 * Runs of 512 calls with any numbers: nothing is ever thrown, twins answer alike, and calls that only ask
 * change nothing (no cached finding outlives what it was found from).
 */
public final class WildTest {
  private static final Check check = new Check();
  private static final int[] ODD = {-1, 0, 1, 2, 3, 7, 8, 11, 12, 255, 256, 4095, 4096, -2, Integer.MIN_VALUE,
    Integer.MAX_VALUE, 1000000, 1000001, 1 << 30};
  private static final String[] TEXTS = {"all a are b", "all b are c", "no a are c", "some a are not b", "some c are d",
    "only a are d", "none but (b or c) are a", "there are a who are b", "there are no h", "w is a", "w is not b or c",
    "z is (not h)", "all a are", "", "x is not not not g", "there are no a or not a", "all h are g", "no g are f",
    "some a are (not a)", "nonsense", "some ((f)) are not (h)", "there are c or d who are not e"};

  private final Random random;

  private WildTest(long seed) {
    random = new Random(seed);
  }

  private int any() {
    int pick = random.nextInt(10);
    if (pick < 6) return random.nextInt(9) - 1;
    if (pick < 8) return random.nextInt(4096);
    return pick < 9 ? ODD[random.nextInt(ODD.length)] : random.nextInt();
  }

  /** One call; the calls 0 to 9 may change something. */
  private static int call(MoodSlips x, int which, int[] n) {
    switch (which) {
      case 0: return x.slip();
      case 1: return x.question();
      case 2: return x.write(n[0]);
      case 3: return x.take(n[0]);
      case 4: return x.existence(n[0]);
      case 5: return x.posit();
      case 6: return x.propose();
      case 7: return x.riddle(n[0], n[1]);
      case 8: return x.image(n[0]);
      case 9: return x.back(n[0]);
      case 10: return x.fault();
      case 11: return x.of(n[0], n[1]);
      case 12: return x.has(n[0], n[1]);
      case 13: return x.letter(n[0], n[1]);
      case 14: return x.quarrels(n[0]);
      case 15: return x.follows(n[0]);
      case 16: return x.denied(n[0]);
      case 17: return x.open(n[0]);
      case 18: return x.idle(n[0]);
      case 19: return x.least(n[0]);
      case 20: return x.quarrel(n[0]);
      case 21: return x.calm(n[0]);
      case 22: return x.hint(n[0]);
      case 23: return x.between(n[0], n[1], n[2]);
      case 24: return x.square(n[0], n[1]);
      case 25: return x.says(n[0], n[1], n[2], n[3]);
      case 26: return x.all(n[0], n[1]);
      case 27: return x.world(n[0], n[1]);
      case 28: return x.name(n[0], n[1], n[2]);
      case 29: return x.pair(n[0], n[1], n[2]);
      case 30: return x.wrong(n[0], n[1], n[2]);
      case 31: return x.derived(n[0], n[1], n[2]);
      case 32: return x.by(n[0], n[1], n[2], n[3]);
      case 33: return x.derive(n[0]);
      case 34: return x.bound(n[0]);
      case 35: return x.drawn(n[0], n[1]);
      case 36: return x.count(n[0]);
      case 37: return x.status();
      case 38: return x.end(n[0]);
      default: return x.feed(n[0], n[1], n[2], n[3], n[0]);
    }
  }

  /** The second object is asked only now and then: what it answers must not hang on what was asked ahead. */
  private void run(int number) {
    MoodSlips asked = new MoodSlips();
    MoodSlips quiet = new MoodSlips();
    for (int step = 0; step < 512; step++) {
      int[] n = {any(), any(), any(), any()};
      int pick = random.nextInt(10);
      if (pick < 2) {
        String text = TEXTS[random.nextInt(TEXTS.length)];
        Texts.feed(asked, text);
        Texts.feed(quiet, text);
        boolean isSlip = random.nextBoolean();
        check.due("run " + number + " read " + text, isSlip ? asked.slip() : asked.question(),
          isSlip ? quiet.slip() : quiet.question());
      } else {
        int which = pick < 4 ? random.nextInt(10) : pick < 5 ? 38 + random.nextInt(2) : 10 + random.nextInt(28);
        int answer = call(asked, which, n);
        boolean isChange = which < 10 || which >= 38;
        if (isChange || random.nextInt(4) == 0)
          check.due("run " + number + " call " + which, call(quiet, which, n), answer);
      }
    }
  }

  public static void main(String[] args) {
    for (int seed = 0; seed < 1500 && check.isWell(); seed++) new WildTest(seed).run(seed);
    check.finish();
  }
}
