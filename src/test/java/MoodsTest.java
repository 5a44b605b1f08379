import java.util.Random;
import java.util.Set;
import java.util.TreeMap;

/** Pairs by the moods that the schools name, derivations by plain search, riddles by chains: promises 28 to 32, 36, 37. */
public final class MoodsTest {
  private static final Check check = new Check();
  private static final Random random = new Random(11);
  private static final String MOODS = "AEIO";
  // Major, minor, conclusion, figure; those behind the bar need a subject that there is.
  private static final Set<String> STRONG = Set.of("AAA1", "EAE1", "AII1", "EIO1", "EAE2", "AEE2", "EIO2", "AOO2",
    "IAI3", "AII3", "OAO3", "EIO3", "AEE4", "IAI4", "EIO4");
  private static final Set<String> WEAK = Set.of("AAI1", "EAO1", "EAO2", "AEO2", "AAI3", "EAO3", "AAI4", "EAO4", "AEO4");

  private static String simple(int mood, int s, int p) {
    char a = (char) ('a' + s);
    char b = (char) ('a' + p);
    switch (mood) {
      case 0: return "all " + a + " are " + b;
      case 1: return "no " + a + " are " + b;
      case 2: return "some " + a + " are " + b;
      default: return "some " + a + " are not " + b;
    }
  }

  private static boolean leadsMajor(int figure) {
    return figure == 1 || figure == 3;
  }

  private static boolean leadsMinor(int figure) {
    return figure >= 3;
  }

  /** Whether a simple sentence is so in a world of three kinds (bits of regions 0 .. 7). */
  private static boolean isSo(int world, int mood, int s, int p, boolean told) {
    boolean some = false;
    boolean subject = false;
    for (int r = 0; r < 8; r++) {
      if ((world >> r & 1) == 0 || (r >> s & 1) == 0) continue;
      subject = true;
      boolean in = (r >> p & 1) != 0;
      some |= mood == 0 || mood == 3 ? !in : in;
    }
    return mood < 2 ? !some && (!told || subject) : some;
  }

  /** The first mood of kind 0 and kind 2 that is so in all worlds where both are (kind 1 is the middle). */
  private static int concluded(int major, int minor, int figure, boolean told) {
    for (int mood = 0; mood < 4; mood++) {
      boolean always = true;
      for (int world = 1; world < 256 && always; world++) {
        boolean majorSo = leadsMajor(figure) ? isSo(world, major, 1, 2, told) : isSo(world, major, 2, 1, told);
        boolean minorSo = leadsMinor(figure) ? isSo(world, minor, 1, 0, told) : isSo(world, minor, 0, 1, told);
        if (majorSo && minorSo && !isSo(world, mood, 0, 2, told)) always = false;
      }
      if (always) return mood;
    }
    return -1;
  }

  private static int wrongBySchools(int major, int minor, int mood, int figure, boolean told) {
    String form = "" + MOODS.charAt(major) + MOODS.charAt(minor) + MOODS.charAt(mood) + figure;
    if (STRONG.contains(form) || told && WEAK.contains(form)) return 0;
    return WEAK.contains(form) ? 7 : -2;
  }

  /** The kinds that are distributed in a simple sentence, as bits. */
  private static int distributed(int mood, int s, int p) {
    return (mood <= 1 ? 1 << s : 0) | (mood % 2 == 1 ? 1 << p : 0);
  }

  /** The rules in their order, with subject 0, middle 1, predicate 2. */
  private static int wrongByRules(int major, int minor, int mood, int figure, boolean told) {
    int inMajor = leadsMajor(figure) ? distributed(major, 1, 2) : distributed(major, 2, 1);
    int inMinor = leadsMinor(figure) ? distributed(minor, 1, 0) : distributed(minor, 0, 1);
    int inIt = distributed(mood, 0, 2);
    int negatives = major % 2 + minor % 2;
    if (negatives == 2) return 1;
    if (((inMajor | inMinor) & 2) == 0) return 2;
    if ((inIt & ~inMajor & 4) != 0) return 3;
    if ((inIt & ~inMinor & 1) != 0) return 4;
    if (mood % 2 == 0 && negatives > 0) return 5;
    if (mood % 2 == 1 && negatives == 0) return 6;
    return major < 2 && minor < 2 && mood >= 2 && !told ? 7 : 0;
  }

  private static void checkPairs() {
    int[][] kinds = {{0, 1, 2}, {7, 0, 3}, {4, 6, 5}, {2, 7, 1}};
    for (int major = 0; major < 4; major++)
      for (int minor = 0; minor < 4; minor++)
        for (int figure = 1; figure <= 4; figure++)
          for (int told = 0; told < 2; told++) {
            int[] k = kinds[random.nextInt(kinds.length)];
            checkPair(major, minor, figure, told, k);
          }
  }

  private static void checkPair(int major, int minor, int figure, int told, int[] k) {
    int s = k[0];
    int m = k[1];
    int p = k[2];
    MoodSlips x = new MoodSlips();
    Texts.slip(x, leadsMajor(figure) ? simple(major, m, p) : simple(major, p, m));
    Texts.slip(x, leadsMinor(figure) ? simple(minor, m, s) : simple(minor, s, m));
    x.existence(told);
    String at = "" + MOODS.charAt(major) + MOODS.charAt(minor) + figure + " told " + told + " ";
    int due = concluded(major, minor, figure, told == 1);
    check.due(at + "figure", x.pair(0, 1, 0), figure);
    check.due(at + "middle", x.pair(0, 1, 1), m);
    check.due(at + "mood", x.pair(0, 1, 2), due);
    check.due(at + "subject", x.pair(0, 1, 3), s);
    check.due(at + "predicate", x.pair(0, 1, 4), p);
    check.due(at + "5", x.pair(0, 1, 5), -1);
    check.due(at + "-1", x.pair(0, 1, -1), -1);
    int[] turned = {0, 4, 2, 3, 1};
    check.due(at + "turned figure", x.pair(1, 0, 0), turned[figure]);
    check.due(at + "turned subject", x.pair(1, 0, 3), p);
    for (int mood = 0; mood < 4; mood++) {
      int wrong = wrongBySchools(major, minor, mood, figure, told == 1);
      int rules = wrongByRules(major, minor, mood, figure, told == 1);
      check.due(at + "schools " + mood, wrong, rules == 0 || rules == 7 ? rules : -2);
      check.due(at + "wrong " + mood, x.wrong(0, 1, mood), rules);
    }
    check.due(at + "wrong 4", x.wrong(0, 1, 4), -1);
    check.due(at + "wrong -1", x.wrong(0, 1, -1), -1);
    if (due >= 0) {
      check.due(at + "derived", x.derived(due, s, p), 1);
      check.due(at + "says", x.says(3, due, s, p), 1);
    }
  }

  // ---- derivations ----

  private static int[] join(int major, int minor) {
    int ms = major >> 3 & 7;
    int mp = major & 7;
    int ns = minor >> 3 & 7;
    int np = minor & 7;
    int shared = (1 << ms | 1 << mp) & (1 << ns | 1 << np);
    if (Integer.bitCount(shared) != 1) return null;
    int m = Integer.numberOfTrailingZeros(shared);
    int figure = m == np ? m == ms ? 1 : 2 : m == ms ? 3 : 4;
    return new int[] {figure, m == np ? ns : np, m == ms ? mp : ms};
  }

  private static final int[] conclusions = new int[128];

  private static int conclude(int major, int minor, boolean told) {
    int[] j = join(major, minor);
    if (j == null) return -1;
    int mood = conclusions[(told ? 64 : 0) + (major >> 6) * 16 + (minor >> 6) * 4 + j[0] - 1];
    return mood < 0 ? -1 : mood * 64 + j[1] * 8 + j[2];
  }

  private static void learn() {
    for (int i = 0; i < 128; i++) conclusions[i] = concluded(i >> 4 & 3, i >> 2 & 3, (i & 3) + 1, i >= 64);
  }

  private static void checkDerivation(int run) {
    MoodSlips x = new MoodSlips();
    boolean told = random.nextBoolean();
    x.existence(told ? 1 : 0);
    TreeMap<Integer, Integer> rounds = new TreeMap<>();
    TreeMap<Integer, int[]> by = new TreeMap<>();
    int n = random.nextInt(13);
    boolean chain = random.nextInt(4) == 0;
    for (int i = 0; i < n; i++) {
      int mood = chain ? 0 : random.nextInt(3) == 0 ? random.nextInt(4) : random.nextInt(2);
      int s = chain ? i % 7 : random.nextInt(8);
      int p = chain ? i % 7 + 1 : (s + 1 + random.nextInt(7)) % 8;
      Texts.slip(x, mood == 0 && random.nextBoolean() ? "only " + simple(0, p, s).substring(4) : simple(mood, s, p));
      rounds.put(mood * 64 + s * 8 + p, 0);
    }
    if (n < 12) Texts.slip(x, "x is a");
    int last = 0;
    for (int round = 1; ; round++) {
      TreeMap<Integer, Integer> found = new TreeMap<>();
      for (int major : rounds.keySet())
        for (int minor : rounds.keySet()) {
          int c = conclude(major, minor, told);
          if (c < 0 || rounds.containsKey(c) || found.containsKey(c)) continue;
          found.put(c, round);
          by.put(c, new int[] {major, minor});
        }
      if (found.isEmpty()) break;
      last = round;
      rounds.putAll(found);
    }
    String at = "derivation " + run + " ";
    check.due(at + "total", x.derive(0), rounds.size());
    check.due(at + "rounds", x.derive(1), last);
    check.due(at + "2", x.derive(2), -1);
    for (int c = 0; c < 256; c++) {
      int mood = c >> 6;
      int s = c >> 3 & 7;
      int p = c & 7;
      check.due(at + c, x.derived(mood, s, p), s == p ? -1 : rounds.getOrDefault(c, -1));
      for (int what = 0; what < 2; what++)
        check.due(at + c + " by " + what, x.by(mood, s, p, what), by.containsKey(c) ? by.get(c)[what] : -1);
      check.due(at + c + " by 2", x.by(mood, s, p, 2), -1);
    }
  }

  // ---- riddles ----

  /** Whether a thing can be of some kinds and not of others, by chains of all and no. */
  private static boolean canBe(int[] kept, int count, int yes, int no) {
    for (int again = 0; again < 20; again++)
      for (int i = 0; i < count; i++) {
        int s = 1 << (kept[i] >> 3 & 7);
        int p = 1 << (kept[i] & 7);
        if (kept[i] >> 6 == 0) {
          if ((yes & s) != 0) yes |= p;
          if ((no & p) != 0) no |= s;
        } else if (kept[i] >> 6 == 1) {
          if ((yes & s) != 0) no |= p;
          if ((yes & p) != 0) no |= s;
        }
      }
    return (yes & no) == 0;
  }

  private static boolean quarrels(int[] kept, int count) {
    for (int i = 0; i < count; i++) {
      int s = 1 << (kept[i] >> 3 & 7);
      int p = 1 << (kept[i] & 7);
      if (kept[i] >> 6 == 2 && !canBe(kept, count, s | p, 0)) return true;
      if (kept[i] >> 6 == 3 && !canBe(kept, count, s, p)) return true;
    }
    return false;
  }

  private static void checkRiddle(int seed, int n) {
    MoodSlips x = new MoodSlips();
    if (random.nextBoolean()) x.existence(1);
    long s = seed;
    int[] kept = new int[13];
    int count = 0;
    for (int i = 0; i < n; i++) {
      s = (s * 1103 + 12345) % 1000003;
      int mood = (int) (s % 4);
      s = (s * 1103 + 12345) % 1000003;
      int subject = (int) (s % 8);
      s = (s * 1103 + 12345) % 1000003;
      int predicate = (int) (s % 7);
      if (predicate >= subject) predicate++;
      kept[count] = mood * 64 + subject * 8 + predicate;
      if (!quarrels(kept, count + 1)) count++;
    }
    String at = "riddle " + seed + " " + n + " ";
    check.due(at, x.riddle(seed, n), count);
    for (int i = 0; i < count; i++) {
      check.due(at + "mood", x.drawn(i, 0), kept[i] >> 6);
      check.due(at + "subject", x.drawn(i, 1), kept[i] >> 3 & 7);
      check.due(at + "predicate", x.drawn(i, 2), kept[i] & 7);
      check.due(at + "3", x.drawn(i, 3), -1);
    }
    check.due(at + "over", x.drawn(count, 0), -1);
    int a = 0;
    int e = 0;
    for (int i = 0; i < 64; i++) {
      int one = 1 << (i >> 3);
      int other = 1 << (i & 7);
      if (one == other) continue;
      if (!canBe(kept, count, one, other)) a++;
      if (!canBe(kept, count, one | other, 0)) e++;
    }
    check.due(at + "all A", x.drawn(-1, 0), a);
    check.due(at + "all E", x.drawn(-1, 1), e);
    check.due(at + "all I", x.drawn(-1, 2), -1);
  }

  public static void main(String[] args) {
    learn();
    checkPairs();
    for (int run = 0; run < 300 && check.isWell(); run++) checkDerivation(run);
    for (int run = 0; run < 1500 && check.isWell(); run++) checkRiddle(random.nextInt(1000001), random.nextInt(13));
    checkRiddle(0, 12);
    checkRiddle(1000000, 12);
    checkRiddle(0, 0);
    checkRiddle(1000000, 0);
    check.finish();
  }
}
