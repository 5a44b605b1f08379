/** Promises 28 to 32 at their edges, a sentence of the document each: pairs, what is wrong, what is derived. */
public final class MoodEdgesTest {
  private static final Check check = new Check();
  private static final int LOW = Integer.MIN_VALUE;
  private static final int HIGH = Integer.MAX_VALUE;
  private static final int[] NO_KIND = {-1, 8, 9, -2, LOW, HIGH};
  private static final int[] NO_MOOD = {-1, 4, 5, -2, LOW, HIGH};

  private static void due(String call, int got, int want) {
    check.due(call, (long) got, (long) want);
  }

  /** The number of a simple sentence. */
  private static int number(int mood, int subject, int predicate) {
    return 64 * mood + 8 * subject + predicate;
  }

  // ---- promise 28 ----

  /** Of the first slip as MAJOR, the second as MINOR; the kinds are a (subject), b (MIDDLE), c (predicate). */
  private static void pair(String major, String minor, int figure, int mood, int moodTold) {
    MoodSlips x = Texts.with(major, minor);
    String at = major + ", " + minor + ": ";
    for (int told = 0; told < 2; told++) {
      x.existence(told);
      due(at + "FIGURE", x.pair(0, 1, 0), figure);
      due(at + "MIDDLE", x.pair(0, 1, 1), 1);
      due(at + "MOOD, told " + told, x.pair(0, 1, 2), told == 0 ? mood : moodTold);
      due(at + "subject", x.pair(0, 1, 3), 0);
      due(at + "predicate", x.pair(0, 1, 4), 2);
      due(at + "turned subject", x.pair(1, 0, 3), 2);
      due(at + "turned predicate", x.pair(1, 0, 4), 0);
      due(at + "turned MIDDLE", x.pair(1, 0, 1), 1);
      due(at + "turned FIGURE", x.pair(1, 0, 0), figure == 1 ? 4 : figure == 4 ? 1 : figure);
    }
  }

  private static void figures() {
    check.sentence(28, "the FIGURE: 1 it is subject of the MAJOR, predicate of the MINOR; 2 predicate of both; 3 subject of both; 4 ..");
    pair("all b are c", "all a are b", 1, 0, 0);
    pair("no c are b", "all a are b", 2, 1, 1);
    pair("all b are c", "some b are a", 3, 2, 2);
    pair("some c are b", "all b are a", 4, 2, 2);
    pair("only c are b", "none but b are a", 1, 0, 0);
    pair("only (b) are ((c))", "no a are (b)", 2, 1, 1);
  }

  private static void concludes() {
    check.sentence(28, "the first MOOD of A, E, I, O that FOLLOWS from both (EXISTENCE as it is told)");
    pair("some b are not c", "all b are a", 3, 3, 3);
    pair("no b are c", "some a are b", 1, 3, 3);
    pair("all b are c", "all b are a", 3, -1, 2);
    pair("no b are c", "all b are a", 3, -1, 3);
    pair("all c are b", "all b are a", 4, -1, 2);
    pair("all c are b", "no b are a", 4, 1, -1);
    pair("all c are b", "no a are b", 2, 1, 1);
  }

  private static void concludesNothing() {
    check.sentence(28, "the MOOD that they CONCLUDE (2; NONE)");
    pair("some b are c", "some a are b", 1, -1, -1);
    pair("no b are c", "no a are b", 1, -1, -1);
    pair("all c are b", "all a are b", 2, -1, -1);
    pair("some b are not c", "some b are not a", 3, -1, -1);
  }

  private static void noMiddle() {
    check.sentence(28, "NONE (no MIDDLE, too)");
    MoodSlips x = Texts.with("all a are b", "all c are d", "no b are a", "w is a", "there are a", "all a are a", "all a are not b",
      "some a are (not b)", "no a or c are b", "all b are c");
    for (int what = 0; what < 5; what++) {
      due("no KIND in both, " + what, x.pair(0, 1, what), -1);
      due("both KINDS in both, " + what, x.pair(0, 2, what), -1);
      due("both KINDS in both, turned, " + what, x.pair(2, 0, what), -1);
      due("the same SLIP, " + what, x.pair(0, 0, what), -1);
      for (int other = 3; other < 9; other++) {
        due("not SIMPLE as MINOR: " + other + ", " + what, x.pair(9, other, what), -1);
        due("not SIMPLE as MAJOR: " + other + ", " + what, x.pair(other, 9, what), -1);
      }
    }
    MoodSlips y = Texts.with("all h are a", "w is h", "there are h", "all h are h", "all g are h or a", "no h are not a");
    for (int other = 1; other < 6; other++) {
      due("not SIMPLE, and the last KIND, as MINOR: " + other, y.pair(0, other, 0), -1);
      due("not SIMPLE, and the last KIND, as MAJOR: " + other, y.pair(other, 0, 0), -1);
      due("not SIMPLE, and the last KIND, as both: " + other, y.pair(other, other, 0), -1);
    }
    due("one KIND in both", x.pair(9, 0, 0), 1);
    due("one KIND in both", x.pair(1, 9, 1), 2);
  }

  private static void pairNone() {
    check.sentence(28, "NONE (no such SLIP, nothing of that number)");
    MoodSlips x = Texts.asking("all a are b", "all a are b", "all b are c");
    int[] none = {2, 11, 12, -1, -2, LOW, HIGH};
    for (int slip : none)
      for (int what = 0; what < 5; what++) {
        due("pair(" + slip + ", 0, " + what + ")", x.pair(slip, 0, what), -1);
        due("pair(1, " + slip + ", " + what + ")", x.pair(1, slip, what), -1);
        due("pair(" + slip + ", " + slip + ", " + what + ")", x.pair(slip, slip, what), -1);
      }
    int[] wrong = {-1, 5, 6, -2, LOW, HIGH};
    for (int what : wrong) due("pair(1, 0, " + what + ")", x.pair(1, 0, what), -1);
    due("pair(1, 0, 0)", x.pair(1, 0, 0), 1);
    MoodSlips y = new MoodSlips();
    for (int i = 0; i < 12; i++) Texts.slip(y, i < 11 ? "all h are g" : "all g are f");
    due("the last of twelve", y.pair(11, 10, 2), 0);
    due("one behind it", y.pair(12, 10, 2), -1);
    due("one behind it", y.pair(11, 12, 2), -1);
  }

  // ---- promise 29 ----

  private static void wrong(String major, String minor, int mood, int untold, int told) {
    MoodSlips x = Texts.with(major, minor);
    due(major + ", " + minor + ": " + mood, x.wrong(0, 1, mood), untold);
    x.existence(1);
    due("told: " + major + ", " + minor + ": " + mood, x.wrong(0, 1, mood), told);
  }

  private static void wrongs() {
    check.sentence(29, "What is WRONG with a MOOD concluded .. 1 .. 7; 0 nothing");
    wrong("no b are c", "some a are not b", 3, 1, 1);
    wrong("all c are b", "all a are b", 0, 2, 2);
    wrong("all b are c", "no a are b", 1, 3, 3);
    wrong("all b are c", "some a are b", 0, 4, 4);
    wrong("no b are c", "all a are b", 0, 5, 5);
    wrong("all c are b", "all b are a", 3, 6, 6);
    wrong("no b are c", "all a are b", 3, 7, 0);
    wrong("no b are c", "all a are b", 1, 0, 0);
    wrong("all b are c", "all a are b", 0, 0, 0);
    wrong("all b are c", "all a are b", 2, 7, 0);
    wrong("some c are b", "all b are a", 2, 0, 0);
    wrong("only c are b", "none but b are a", 0, 0, 0);
  }

  private static void firstWrong() {
    check.sentence(29, "the first of: 1 .. 7");
    wrong("some b are not c", "some a are not b", 0, 1, 1);
    wrong("some c are not b", "no b are a", 1, 1, 1);
    wrong("some b are c", "some a are b", 1, 2, 2);
    wrong("all c are b", "some a are b", 3, 2, 2);
    wrong("all b are c", "some a are b", 1, 3, 3);
    wrong("all b are c", "all b are a", 1, 3, 3);
    wrong("no b are c", "some a are b", 0, 4, 4);
    wrong("all c are b", "all b are a", 1, 4, 4);
    wrong("no c are b", "all b are a", 2, 5, 5);
    wrong("all b are c", "all a are b", 3, 3, 3);
    wrong("no b are c", "all b are a", 3, 7, 0);
    wrong("all c are b", "no b are a", 1, 0, 0);
  }

  private static void wrongNone() {
    check.sentence(29, "NONE (as for pair; MOOD)");
    MoodSlips x = Texts.asking("all a are b", "all a are b", "all b are c", "all c are d", "no b are a", "w is b", "all b are not c");
    for (int mood : NO_MOOD) due("wrong(1, 0, " + mood + ")", x.wrong(1, 0, mood), -1);
    int[] none = {6, 11, 12, -1, -2, LOW, HIGH};
    for (int mood = 0; mood < 4; mood++) {
      for (int slip : none) {
        due("wrong(" + slip + ", 0, " + mood + ")", x.wrong(slip, 0, mood), -1);
        due("wrong(1, " + slip + ", " + mood + ")", x.wrong(1, slip, mood), -1);
      }
      due("no KIND in both", x.wrong(0, 2, mood), -1);
      due("both KINDS in both", x.wrong(0, 3, mood), -1);
      due("the same SLIP", x.wrong(0, 0, mood), -1);
      due("not SIMPLE as MINOR", x.wrong(1, 4, mood), -1);
      due("not SIMPLE as MAJOR", x.wrong(5, 0, mood), -1);
    }
    due("wrong(1, 0, 0)", x.wrong(1, 0, 0), 0);
    MoodSlips y = new MoodSlips();
    for (int i = 0; i < 12; i++) Texts.slip(y, i < 11 ? "all h are g" : "all g are f");
    due("the last of twelve", y.wrong(11, 10, 0), 0);
    due("one behind it", y.wrong(12, 10, 0), -1);
    due("one behind it", y.wrong(11, 12, 0), -1);
  }

  // ---- promise 30 ----

  private static void roundNothing() {
    check.sentence(30, "in ROUND 0 those of all SLIPS (SIMPLE ones, not the QUESTION)");
    MoodSlips x = Texts.asking("all f are g", "all a are h", "no h are b", "some a are c", "some h are not a", "only d are e", "w is a",
      "there are b", "all c are not d", "none but (a) are g", "some c are (not a)", "all a are h", "all e are e");
    int[][] given = {{0, 0, 7}, {1, 7, 1}, {2, 0, 2}, {3, 7, 0}, {0, 4, 3}, {0, 6, 0}};
    for (int[] g : given) due("derived(" + g[0] + ", " + g[1] + ", " + g[2] + ")", x.derived(g[0], g[1], g[2]), 0);
    due("the QUESTION is not", x.derived(0, 5, 6), -1);
    due("what has a \"not\" of its own is not", x.derived(3, 2, 0), -1);
    due("nor as another MOOD", x.derived(1, 2, 3), -1);
    due("what is alike is not", x.derived(1, 1, 7), -1);
  }

  private static void rounds() {
    check.sentence(30, "in each further ROUND what any two that were DERIVED ahead of it CONCLUDE .., if it is not DERIVED yet");
    MoodSlips x = Texts.with("all a are b", "all b are c", "all c are d", "all d are e", "all e are f", "all f are g", "all g are h");
    for (int s = 0; s < 8; s++)
      for (int p = 0; p < 8; p++) {
        if (s == p) continue;
        int far = p - s;
        int round = far < 1 ? -1 : far == 1 ? 0 : far == 2 ? 1 : far <= 4 ? 2 : 3;
        due("derived(0, " + s + ", " + p + ")", x.derived(0, s, p), round);
        due("derived(2, " + s + ", " + p + ")", x.derived(2, s, p), -1);
      }
    due("how many", x.derive(0), 28);
    due("rounds", x.derive(1), 3);
    Texts.ask(x, "no h are a");
    x.write(6);
    due("by a SLIP written anew", x.derived(0, 0, 7), -1);
    due("by a SLIP written anew", x.derived(1, 7, 0), 0);
  }

  private static void roundsTold() {
    check.sentence(30, "(as MAJOR and MINOR, EXISTENCE as it is told)");
    MoodSlips x = Texts.with("all b are c", "all b are a");
    due("untold", x.derived(2, 0, 2), -1);
    due("untold: how many", x.derive(0), 2);
    due("untold: rounds", x.derive(1), 0);
    x.existence(1);
    due("told", x.derived(2, 0, 2), 1);
    due("told, the other as MAJOR", x.derived(2, 2, 0), 1);
    due("told: how many", x.derive(0), 4);
    due("told: rounds", x.derive(1), 1);
    x.existence(0);
    due("untold again", x.derived(2, 0, 2), -1);
    due("untold again: how many", x.derive(0), 2);
    due("untold again: rounds", x.derive(1), 0);
    MoodSlips y = Texts.with("all c are b", "no b are a");
    due("untold: its subject need not be", y.derived(1, 0, 2), 1);
    y.existence(1);
    due("told: its subject is not said to be", y.derived(1, 0, 2), -1);
  }

  private static void derivedNone() {
    check.sentence(30, "NONE (never, too)");
    MoodSlips x = Texts.with("all a are b", "all b are c");
    due("never", x.derived(0, 2, 0), -1);
    due("never, though it FOLLOWS", Texts.with("no a are b").derived(1, 1, 0), -1);
    due("never, of no SLIPS", new MoodSlips().derived(0, 0, 1), -1);
    for (int kind = 0; kind < 8; kind++)
      for (int mood = 0; mood < 4; mood++) due("the same KIND", x.derived(mood, kind, kind), -1);
    for (int mood : NO_MOOD) due("derived(" + mood + ", 0, 1)", x.derived(mood, 0, 1), -1);
    for (int kind : NO_KIND) {
      due("derived(0, " + kind + ", 1)", x.derived(0, kind, 1), -1);
      due("derived(0, 0, " + kind + ")", x.derived(0, 0, kind), -1);
    }
    due("derived(0, 0, 2)", x.derived(0, 0, 2), 1);
  }

  // ---- promise 31 ----

  private static void by(MoodSlips x, int mood, int subject, int predicate, int major, int minor) {
    String call = "by(" + mood + ", " + subject + ", " + predicate + ", ";
    due(call + "0)", x.by(mood, subject, predicate, 0), major);
    due(call + "1)", x.by(mood, subject, predicate, 1), minor);
  }

  private static void byFirst() {
    check.sentence(31, "the first MAJOR by its NUMBER, then MINOR");
    by(Texts.with("all d are c", "all a are d", "all b are c", "all a are b"), 0, 0, 2, number(0, 1, 2), number(0, 0, 1));
    by(Texts.with("no b are c", "some b are a", "some a are b"), 3, 0, 2, number(1, 1, 2), number(2, 0, 1));
    by(Texts.with("no c are b", "no b are c", "some b are a", "some a are b"), 3, 0, 2, number(1, 1, 2), number(2, 0, 1));
    by(Texts.with("all h are g", "all g are f"), 0, 7, 5, number(0, 6, 5), number(0, 7, 6));
  }

  private static void byAhead() {
    check.sentence(31, "of those DERIVED ahead of its ROUND");
    MoodSlips x = Texts.with("all d are c", "all a are d", "all b are e", "all e are c", "all a are b");
    due("all b are c: ROUND 1", x.derived(0, 1, 2), 1);
    due("all a are c: ROUND 1, too", x.derived(0, 0, 2), 1);
    by(x, 0, 0, 2, number(0, 3, 2), number(0, 0, 3));
    MoodSlips y = Texts.with("all a are b", "all b are c", "all c are d", "all d are e");
    due("all a are d: ROUND 2", y.derived(0, 0, 3), 2);
    by(y, 0, 0, 3, number(0, 1, 3), number(0, 0, 1));
    by(y, 0, 0, 4, number(0, 2, 4), number(0, 0, 2));
    MoodSlips z = Texts.with("all a are c", "all b are a");
    z.existence(1);
    due("all b are c: ROUND 1", z.derived(0, 1, 2), 1);
    due("some c are b: ROUND 1", z.derived(2, 2, 1), 1);
    due("some c are a: ROUND 2", z.derived(2, 2, 0), 2);
    by(z, 2, 2, 0, number(0, 1, 0), number(0, 1, 2));
    due("some a are c: ROUND 2", z.derived(2, 0, 2), 2);
    by(z, 2, 0, 2, number(0, 1, 2), number(0, 1, 0));
  }

  private static void byNone() {
    check.sentence(31, "NONE (in ROUND 0, never, too)");
    MoodSlips x = Texts.with("all a are b", "all b are c", "all a are c", "no c are d");
    by(x, 0, 0, 1, -1, -1);
    by(x, 0, 0, 2, -1, -1);
    by(x, 0, 2, 0, -1, -1);
    by(x, 2, 5, 6, -1, -1);
    by(x, 1, 0, 3, number(1, 2, 3), number(0, 0, 2));
    by(new MoodSlips(), 0, 0, 1, -1, -1);
    for (int kind = 0; kind < 8; kind++) by(x, 1, kind, kind, -1, -1);
    for (int mood : NO_MOOD) by(x, mood, 0, 3, -1, -1);
    for (int kind : NO_KIND) {
      by(x, 1, kind, 3, -1, -1);
      by(x, 1, 0, kind, -1, -1);
    }
    int[] wrong = {-1, 2, 3, -2, LOW, HIGH};
    for (int what : wrong) due("by(1, 0, 3, " + what + ")", x.by(1, 0, 3, what), -1);
  }

  // ---- promise 32 ----

  private static void derive() {
    check.sentence(32, "How many are DERIVED (what 0), in how many ROUNDS beyond 0 something is (1)");
    MoodSlips none = new MoodSlips();
    due("of no SLIPS", none.derive(0), 0);
    due("rounds of no SLIPS", none.derive(1), 0);
    MoodSlips x = Texts.with("w is a", "all a are a", "there are h");
    due("of none that is SIMPLE", x.derive(0), 0);
    due("rounds of none", x.derive(1), 0);
    MoodSlips y = Texts.with("all a are b", "only b are a", "all a are b");
    due("each once", y.derive(0), 1);
    due("rounds of one", y.derive(1), 0);
    Texts.slip(y, "all b are c");
    due("a ROUND more", y.derive(0), 3);
    due("rounds", y.derive(1), 1);
    MoodSlips z = Texts.with("all a are b", "all b are c", "all c are d", "all d are e", "all e are f", "all f are g", "all g are h",
      "all h are a");
    due("all there are of MOOD A", z.derive(0), 56);
    due("rounds of a ring", z.derive(1), 3);
  }

  private static void deriveNone() {
    check.sentence(32, "NONE (nothing of that number)");
    MoodSlips x = Texts.with("all a are b", "all b are c");
    int[] wrong = {-1, 2, 3, -2, LOW, HIGH};
    for (int what : wrong) due("derive(" + what + ")", x.derive(what), -1);
    for (int what : wrong) due("derive(" + what + ") of no SLIPS", new MoodSlips().derive(what), -1);
  }

  public static void main(String[] args) {
    figures();
    concludes();
    concludesNothing();
    noMiddle();
    pairNone();
    wrongs();
    firstWrong();
    wrongNone();
    roundNothing();
    rounds();
    roundsTold();
    derivedNone();
    byFirst();
    byAhead();
    byNone();
    derive();
    deriveNone();
    check.finish(28, 32);
  }
}
