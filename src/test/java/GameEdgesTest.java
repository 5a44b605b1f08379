/** Promises 33 to 41 at their edges, a sentence of the document each: disputes, riddles, images, counts, status. */
public final class GameEdgesTest {
  private static final Check check = new Check();
  private static final int LOW = Integer.MIN_VALUE;
  private static final int HIGH = Integer.MAX_VALUE;
  private static final String NEVER = "there are no a or not a";
  private static final String ALWAYS = "there are a or not a";

  private static void due(String call, int got, int want) {
    check.due(call, (long) got, (long) want);
  }

  /** Whether one is bound to each one's being so, in their order. */
  private static void bound(MoodSlips x, int... so) {
    due("bound(NONE)", x.bound(-1), so.length);
    due("count(2)", x.count(2), so.length);
    for (int i = 0; i < so.length; i++) due("bound(" + i + ")", x.bound(i), so[i]);
    int[] wrong = {so.length, so.length + 1, 12, -2, LOW, HIGH};
    for (int i : wrong) due("bound(" + i + ")", x.bound(i), -1);
  }

  /** The question is put, and proposed. */
  private static int propose(MoodSlips x, String question) {
    Texts.ask(x, question);
    return x.propose();
  }

  /** The question is put, and posited. */
  private static int posit(MoodSlips x, String question) {
    Texts.ask(x, question);
    return x.posit();
  }

  /** One is bound to so many. */
  private static MoodSlips boundTo(int n) {
    MoodSlips x = new MoodSlips();
    posit(x, "w is h");
    for (int i = 1; i < n; i++) x.propose();
    return x;
  }

  // ---- promise 33 ----

  private static void posits() {
    check.sentence(33, "POSITED: the QUESTION is the first one (others are forgotten): 0");
    MoodSlips x = new MoodSlips();
    due("posit()", posit(x, "w is a"), 0);
    bound(x, 1);
    due("propose()", propose(x, "there are a"), 1);
    due("propose()", propose(x, "w is not a"), 2);
    bound(x, 1, 1, 0);
    due("posit() anew", posit(x, "w is not a"), 0);
    bound(x, 1);
    due("what one was bound to is forgotten", propose(x, "there are a"), 0);
    due("what one was bound to is forgotten", propose(x, "w is a"), 2);
    MoodSlips y = boundTo(12);
    due("twelve are forgotten, too", posit(y, "w is not h"), 0);
    bound(y, 1);
    due("what is always so", posit(y, ALWAYS), 0);
    due("the same again", y.posit(), 0);
    bound(y, 1);
    due("SLIPS do not matter", posit(Texts.with("w is a"), "w is not a"), 0);
    MoodSlips z = Texts.with("w is a", NEVER);
    due("posit()", posit(z, "z is h"), 0);
    due("a HEAP was asked for", z.quarrels(1), 0);
    due("SLIPS do not matter", propose(z, "w is a"), 0);
    due("a HEAP was asked for", z.quarrels(2), 1);
    due("SLIPS do not matter", propose(z, "w is a"), 0);
    due("SLIPS do not matter", z.posit(), 0);
  }

  private static void positsWithout() {
    check.sentence(33, "-3 there is no QUESTION");
    MoodSlips x = Texts.with("w is a");
    due("posit()", x.posit(), -3);
    due("status()", x.status(), -3);
    due("count(7)", x.count(7), 1);
    bound(x);
  }

  private static void positsWhatCannotBe() {
    check.sentence(33, "-3 .. no WORLD in which it is so");
    String[] never = {NEVER, "there are a who are not a", "w is a who are not a", "some a are (not a)", "no a or not a are b or not b",
      "w is not a or not a"};
    MoodSlips x = new MoodSlips();
    for (String text : never) {
      due("posit " + text, posit(x, text), -3);
      due("status()", x.status(), -3);
      bound(x);
    }
    posit(x, "w is a");
    x.propose();
    for (String text : never) {
      due("posit " + text, posit(x, text), -3);
      bound(x, 1, 1);
    }
    due("the others stay", propose(x, "w is not a"), 2);
    due("count(7)", x.count(7), 2 * never.length);
  }

  private static void existenceAside() {
    check.sentence(33, "(EXISTENCE is left aside in a DISPUTE.)");
    for (int told = 0; told < 2; told++) {
      MoodSlips x = new MoodSlips();
      x.existence(told);
      due("of a subject that can't be", posit(x, "all a who are not a are b"), 0);
      due("all a are b", posit(x, "all a are b"), 0);
      bound(x, 1);
      due("EXISTENCE stays as it is told", x.count(3), told);
    }
  }

  // ---- promise 34 ----

  private static void proposes() {
    check.sentence(34, "PROPOSED: 1 it must be granted, 2 denied, 0 beside the point (nothing)");
    MoodSlips x = new MoodSlips();
    posit(x, "all a are b");
    due("beside the point", propose(x, "w is a"), 0);
    bound(x, 1);
    due("beside the point", propose(x, "w is not a"), 0);
    due("granted", propose(x, "w is not a or b"), 0);
    due("granted", propose(x, "no a are not b"), 1);
    due("denied", propose(x, "some a are not b"), 2);
    bound(x, 1, 1, 0);
    due("what is always so", propose(x, ALWAYS), 1);
    due("what is never so", propose(x, NEVER), 2);
    bound(x, 1, 1, 0, 1, 0);
    due("status()", x.status(), 0);
  }

  private static void proposesToDenied() {
    check.sentence(34, "both are bound to then (to their not being so, too)");
    MoodSlips x = new MoodSlips();
    posit(x, "w is a who are not b");
    due("denied", propose(x, "w is b or c who are b"), 2);
    due("by what was denied, too", propose(x, "w is b"), 2);
    due("granted by both", propose(x, "there are a who are not b"), 1);
    bound(x, 1, 0, 0, 1);
    MoodSlips y = new MoodSlips();
    posit(y, "all a are b");
    due("denied: a thing", propose(y, "some a are not b"), 2);
    due("denied: none", propose(y, NEVER), 2);
    due("all the same beside the point", propose(y, "there are a"), 0);
    bound(y, 1, 0, 0);
  }

  private static void proposesWithout() {
    check.sentence(34, "-3 there is no QUESTION, nothing was POSITED");
    MoodSlips x = new MoodSlips();
    due("neither", x.propose(), -3);
    due("status()", x.status(), -3);
    due("nothing was POSITED", propose(x, "w is a"), -3);
    due("what must be granted anyhow", propose(x, ALWAYS), -3);
    due("POSITED, but refused", posit(x, NEVER), -3);
    due("nothing was POSITED", propose(x, ALWAYS), -3);
    bound(x);
    due("count(7)", x.count(7), 5);
    x.image(0);
    x.posit();
    due("POSITED", x.propose(), 1);
    x.back(0);
    due("nothing was POSITED by then", x.propose(), -3);
  }

  private static void noRoom() {
    check.sentence(34, "-5 (12 at most)");
    MoodSlips x = boundTo(11);
    due("the 12th", x.propose(), 1);
    due("bound(11)", x.bound(11), 1);
    due("a 13th", x.propose(), -5);
    due("status()", x.status(), -5);
    due("one that would be denied", propose(x, "w is not h"), -5);
    due("count(8)", x.count(8), 2);
    bound(x, 1, 1, 1, 1, 1, 1, 1, 1, 1, 1, 1, 1);
    MoodSlips y = boundTo(11);
    due("the 12th denied", propose(y, "w is not h"), 2);
    due("bound(11)", y.bound(11), 0);
    due("a 13th", y.propose(), -5);
    due("bound(NONE)", y.bound(-1), 12);
  }

  private static void proposedExistenceAside() {
    check.sentence(34, "(EXISTENCE is left aside in a DISPUTE.)");
    for (int told = 0; told < 2; told++) {
      MoodSlips x = new MoodSlips();
      x.existence(told);
      posit(x, "all a are b");
      due("a thing of the subject", propose(x, "there are a"), 0);
      due("some a are b", propose(x, "some a are b"), 0);
      due("no a are b", propose(x, "no a are b"), 0);
      due("of a subject that can't be", propose(x, "all a who are not a are b"), 1);
      bound(x, 1, 1);
      posit(x, "some a are not b");
      due("not all are", propose(x, "all a are b"), 2);
      due("what is denied says of its subject nothing", propose(x, "no b are a"), 0);
      posit(x, "there are no a");
      due("by there being none", propose(x, "all a are b"), 1);
    }
  }

  // ---- promise 35 ----

  private static void bounds() {
    check.sentence(35, "To how many SENTENCES one is BOUND (i NONE); whether to the i-th one's being so (1) or not (0). NONE");
    bound(new MoodSlips());
    MoodSlips x = new MoodSlips();
    posit(x, "w is a");
    bound(x, 1);
    propose(x, "w is not a");
    bound(x, 1, 0);
    propose(x, "there are a");
    bound(x, 1, 0, 1);
    propose(x, "x is a");
    bound(x, 1, 0, 1);
    for (int n = 1; n <= 12; n++) due("bound to " + n, boundTo(n).bound(-1), n);
    due("the last of twelve", boundTo(12).bound(11), 1);
    due("none behind it", boundTo(12).bound(12), -1);
    due("none behind eleven", boundTo(11).bound(11), -1);
  }

  // ---- promises 36 and 37 ----

  /** The kept ones of the latest riddle. */
  private static void drawn(MoodSlips x, int[]... kept) {
    for (int i = 0; i < kept.length; i++)
      for (int what = 0; what < 3; what++) due("drawn(" + i + ", " + what + ")", x.drawn(i, what), kept[i][what]);
    int[] wrong = {kept.length, kept.length + 1, 12, -2, LOW, HIGH};
    for (int i : wrong)
      for (int what = 0; what < 3; what++) due("drawn(" + i + ", " + what + ")", x.drawn(i, what), -1);
  }

  private static void seeds() {
    check.sentence(36, "s is the SEED (0 .. 1,000,000)");
    MoodSlips x = new MoodSlips();
    due("seed 0", x.riddle(0, 3), 3);
    drawn(x, new int[] {1, 1, 3}, new int[] {1, 4, 3}, new int[] {1, 1, 2});
    due("seed 1,000,000", x.riddle(1000000, 2), 2);
    drawn(x, new int[] {0, 2, 4}, new int[] {3, 4, 0});
    int[] wrong = {-1, -2, 1000001, 1000002, 1000003, LOW, HIGH};
    for (int seed : wrong) {
      due("riddle(" + seed + ", 3)", x.riddle(seed, 3), -1);
      due("status()", x.status(), -1);
      due("riddle(" + seed + ", 0)", x.riddle(seed, 0), -1);
    }
    due("count(5)", x.count(5), 2 * wrong.length);
    drawn(x, new int[] {0, 2, 4}, new int[] {3, 4, 0});
  }

  private static void sizes() {
    check.sentence(36, "A RIDDLE of n (0 .. 12), kept as the latest");
    MoodSlips x = new MoodSlips();
    due("n 12", x.riddle(1000000, 12), 11);
    drawn(x, new int[] {0, 2, 4}, new int[] {3, 4, 0}, new int[] {1, 0, 4}, new int[] {0, 1, 2}, new int[] {1, 1, 4}, new int[] {0, 4, 5},
      new int[] {3, 7, 5}, new int[] {1, 4, 7}, new int[] {0, 1, 4}, new int[] {2, 6, 2}, new int[] {0, 0, 5});
    int[] wrong = {-1, -2, 13, 14, LOW, HIGH};
    for (int n : wrong) {
      due("riddle(0, " + n + ")", x.riddle(0, n), -1);
      due("status()", x.status(), -1);
    }
    due("the latest stays", x.drawn(10, 2), 5);
    due("n 1", x.riddle(0, 1), 1);
    drawn(x, new int[] {1, 1, 3});
    due("status()", x.status(), 0);
    due("n 0", x.riddle(0, 0), 0);
    drawn(x);
    due("no SLIPS by it", x.count(0), 0);
    due("no QUESTION by it", x.count(1), 0);
  }

  private static void notKept() {
    check.sentence(36, "one with which the kept ones would QUARREL is not kept");
    MoodSlips x = new MoodSlips();
    due("no h are b", x.riddle(248, 1), 1);
    drawn(x, new int[] {1, 7, 1});
    due("some h are b is not kept", x.riddle(248, 2), 1);
    drawn(x, new int[] {1, 7, 1});
    due("the next is", x.riddle(248, 3), 2);
    drawn(x, new int[] {1, 7, 1}, new int[] {3, 1, 6});
    due("all a are d beside some a are not d is not kept", x.riddle(1779, 3), 2);
    drawn(x, new int[] {3, 0, 3}, new int[] {0, 1, 7});
    due("what is kept already is kept again", x.riddle(58, 2), 2);
    drawn(x, new int[] {3, 6, 5}, new int[] {3, 6, 5});
  }

  private static void draws() {
    check.sentence(36, "s becomes (s times 1103 and 12345) modulo 1,000,003, it is s modulo m; (from that number on one more)");
    MoodSlips x = new MoodSlips();
    int[][] dues = {{870345, 0, 1, 4}, {241150, 0, 4, 7}, {784216, 1, 3, 0}, {327279, 2, 2, 6}, {30, 3, 0, 1}, {22, 3, 6, 5},
      {43, 2, 0, 7}, {55, 2, 7, 6}, {57, 0, 3, 4}, {67, 2, 6, 7}, {84, 1, 3, 2}, {167, 2, 7, 0}};
    for (int[] d : dues) {
      due("riddle(" + d[0] + ", 1)", x.riddle(d[0], 1), 1);
      drawn(x, new int[] {d[1], d[2], d[3]});
    }
  }

  private static void riddleExistenceAside() {
    check.sentence(36, "(EXISTENCE is left aside.)");
    for (int told = 0; told < 2; told++) {
      MoodSlips x = Texts.with("there are b", "no b are a");
      x.existence(told);
      due("all b are c, no b are c", x.riddle(1835, 2), 2);
      drawn(x, new int[] {0, 1, 2}, new int[] {1, 1, 2});
      due("MOOD A follows", x.drawn(-1, 0), 7);
      due("MOOD E follows", x.drawn(-1, 1), 14);
      x.existence(1 - told);
      due("MOOD A follows, told afterwards", x.drawn(-1, 0), 7);
      due("MOOD E follows, told afterwards", x.drawn(-1, 1), 14);
    }
  }

  private static void followFromAll() {
    check.sentence(37, "how many of MOODS A, E FOLLOW from all of it (i NONE; what 0, 1)");
    MoodSlips x = new MoodSlips();
    x.riddle(0, 3);
    due("drawn(NONE, 0)", x.drawn(-1, 0), 0);
    due("drawn(NONE, 1)", x.drawn(-1, 1), 6);
    x.riddle(0, 1);
    due("of one: A", x.drawn(-1, 0), 0);
    due("of one: E", x.drawn(-1, 1), 2);
    x.riddle(870345, 1);
    due("of another: A", x.drawn(-1, 0), 1);
    due("of another: E", x.drawn(-1, 1), 0);
    Texts.slip(x, NEVER);
    due("a HEAP was asked for", x.all(1, 0), 56);
    due("SLIPS do not matter: A", x.drawn(-1, 0), 1);
    due("a HEAP was asked for", x.all(1, 1), 56);
    due("SLIPS do not matter: E", x.drawn(-1, 1), 0);
    x.riddle(5, 0);
    due("of nothing: A", x.drawn(-1, 0), 0);
    due("of nothing: E", x.drawn(-1, 1), 0);
    int[] wrong = {2, 3, -1, -2, LOW, HIGH};
    for (int what : wrong) {
      due("drawn(NONE, " + what + ") of nothing", x.drawn(-1, what), -1);
      x.riddle(0, 3);
      due("drawn(NONE, " + what + ")", x.drawn(-1, what), -1);
      x.riddle(0, 0);
    }
  }

  private static void drawnNone() {
    check.sentence(37, "The i-th one kept of the latest RIDDLE .. NONE");
    MoodSlips x = new MoodSlips();
    int[] what = {0, 1, 2, 3, -1, LOW, HIGH};
    for (int w : what)
      for (int i = -2; i < 3; i++) due("ahead of any: drawn(" + i + ", " + w + ")", x.drawn(i, w), -1);
    x.riddle(-1, 3);
    x.riddle(0, 13);
    for (int w : what)
      for (int i = -2; i < 3; i++) due("refused ones are none: drawn(" + i + ", " + w + ")", x.drawn(i, w), -1);
    x.riddle(0, 3);
    int[] wrong = {3, 4, -1, -2, LOW, HIGH};
    for (int w : wrong)
      for (int i = 0; i < 3; i++) due("drawn(" + i + ", " + w + ")", x.drawn(i, w), -1);
    drawn(x, new int[] {1, 1, 3}, new int[] {1, 4, 3}, new int[] {1, 1, 2});
    due("not REFUSED", x.status(), 0);
  }

  // ---- promises 38 and 39 ----

  private static void noImage() {
    check.sentence(38, "IMAGES 0, 1 .. IMAGE k is kept: 0; -1");
    MoodSlips x = Texts.asking("w is a", "z is h");
    int[] wrong = {-1, 2, 3, -2, LOW, HIGH};
    for (int k : wrong) {
      due("image(" + k + ")", x.image(k), -1);
      due("status()", x.status(), -1);
    }
    due("count(5)", x.count(5), wrong.length);
    due("none is kept by that: back(0)", x.back(0), -2);
    due("none is kept by that: back(1)", x.back(1), -2);
    due("image(0)", x.image(0), 0);
    due("image(1)", x.image(1), 0);
    due("image(0) again", x.image(0), 0);
    due("status()", x.status(), 0);
  }

  private static void imageAnew() {
    check.sentence(38, "IMAGE k is kept (each by itself, kept anew as it is now)");
    MoodSlips x = Texts.with("w is a");
    x.image(0);
    Texts.slip(x, "x is b");
    x.image(1);
    Texts.slip(x, "y is c");
    x.back(0);
    due("IMAGE 0", x.count(0), 1);
    x.back(1);
    due("IMAGE 1", x.count(0), 2);
    x.image(0);
    Texts.slip(x, "z is d");
    x.back(0);
    due("IMAGE 0 anew", x.count(0), 2);
    Texts.ask(x, "z is h");
    x.write(1);
    x.back(1);
    check.due("IMAGE 1 as it was", Texts.written(x, 1), "x is b");
    due("without a QUESTION", x.count(1), 0);
  }

  private static void backNone() {
    check.sentence(39, "-1 (a number that can't be)");
    MoodSlips x = Texts.asking("w is a", "z is h");
    x.image(0);
    x.image(1);
    Texts.slip(x, "z is g");
    int[] wrong = {-1, 2, 3, -2, LOW, HIGH};
    for (int k : wrong) {
      due("back(" + k + ")", x.back(k), -1);
      due("status()", x.status(), -1);
      due("nothing went back", x.count(0), 2);
    }
    due("count(5)", x.count(5), wrong.length);
    due("count(6)", x.count(6), 0);
  }

  private static void backNotKept() {
    check.sentence(39, "-2 it was not kept");
    MoodSlips x = Texts.asking("w is a", "z is h");
    for (int k = 0; k < 2; k++) {
      due("back(" + k + ")", x.back(k), -2);
      due("status()", x.status(), -2);
    }
    due("a number that can't be is -1", x.back(2), -1);
    x.image(1);
    due("the other is not kept", x.back(0), -2);
    due("this one is", x.back(1), 0);
    x.image(0);
    due("now it is", x.back(0), 0);
    due("count(6)", x.count(6), 3);
    due("SLIPS stay", x.count(0), 1);
    MoodSlips y = new MoodSlips();
    y.image(0);
    Texts.slip(y, "w is a");
    Texts.slip(y, "w is not a");
    due("back to nothing", y.back(0), 0);
    due("no SLIPS", y.count(0), 0);
    due("no HEAP of them", y.quarrels(1), -1);
    due("no quarrels", y.quarrel(-1), 0);
    due("the next is the first", Texts.slip(y, "z is h"), 0);
  }

  private static void keeps() {
    check.sentence(39, "BACK to one all that it keeps is as it was then");
    MoodSlips x = Texts.asking("no a are c", "all a are b", "no b are c");
    x.existence(1);
    x.posit();
    x.propose();
    x.image(1);
    Texts.ask(x, "some a are not b");
    x.write(0);
    Texts.slip(x, "there are no b");
    x.existence(0);
    x.posit();
    Texts.question(x, "z is h");
    due("quarrels", x.quarrel(-1), 0);
    due("derived", x.derive(0), 2);
    due("least(1)", x.least(1), 0);
    due("back(1)", x.back(1), 0);
    due("SLIPS", x.count(0), 2);
    check.due("slip 0", Texts.written(x, 0), "all a are b");
    check.due("slip 1", Texts.written(x, 1), "no b are c");
    check.due("the QUESTION", Texts.written(x, -1), "no a are c");
    due("EXISTENCE", x.count(3), 1);
    bound(x, 1, 1);
    due("what one is bound to", propose(x, "some a are c"), 2);
    due("least(2), told", x.least(2), -1);
    x.back(1);
    due("least(2)", x.least(2), 3);
    due("derived: no a are c, some b are not c besides", x.derive(0), 4);
    due("open", x.open(3), 128);
  }

  private static void keepsBounds() {
    check.sentence(39, "all that it keeps is as it was then (what one is BOUND to)");
    MoodSlips x = new MoodSlips();
    posit(x, "w is a");
    propose(x, "w is not a");
    propose(x, "there are a");
    x.image(0);
    posit(x, "x is b");
    propose(x, "there are b");
    propose(x, "x is not b");
    propose(x, "x is b");
    x.image(1);
    bound(x, 1, 1, 0, 1);
    x.back(0);
    bound(x, 1, 0, 1);
    due("of IMAGE 0", propose(x, "there are b"), 0);
    due("of IMAGE 0", propose(x, "w is a or b"), 1);
    x.back(1);
    bound(x, 1, 1, 0, 1);
    due("of IMAGE 1", propose(x, "there are a"), 0);
    due("of IMAGE 1", propose(x, "x is not b"), 2);
    x.back(0);
    bound(x, 1, 0, 1);
    due("none is left of IMAGE 1", propose(x, "there are b"), 0);
  }

  private static void imagesStay() {
    check.sentence(39, "(IMAGES stay)");
    MoodSlips x = Texts.with("w is a");
    x.image(0);
    Texts.slip(x, "x is b");
    x.image(1);
    for (int i = 0; i < 3; i++) {
      due("back(0)", x.back(0), 0);
      due("SLIPS of IMAGE 0", x.count(0), 1);
      Texts.slip(x, "y is c");
      Texts.ask(x, "z is d");
      x.write(0);
      due("back(1)", x.back(1), 0);
      due("SLIPS of IMAGE 1", x.count(0), 2);
      check.due("slip 0", Texts.written(x, 0), "w is a");
      check.due("slip 1", Texts.written(x, 1), "x is b");
      due("no QUESTION", x.count(1), 0);
    }
    due("an IMAGE kept later stays, back to one ahead of it", x.back(0) + x.back(1), 0);
  }

  private static void keepsNot() {
    check.sentence(39, "all but the TAPE, FAULT, the latest RIDDLE");
    MoodSlips x = new MoodSlips();
    Texts.question(x, "w");
    x.riddle(0, 3);
    Texts.feed(x, "z is h");
    x.image(0);
    x.end(0);
    Texts.question(x, "all a are");
    x.riddle(248, 1);
    Texts.feed(x, "w is a or b");
    due("back(0)", x.back(0), 0);
    due("the TAPE", x.count(4), 11);
    due("FAULT", x.fault(), 9);
    drawn(x, new int[] {1, 7, 1});
    due("what the TAPE has is read", x.slip(), 0);
    check.due("all of it", Texts.written(x, 0), "w is a or b");
    due("FAULT of a good one", x.fault(), -1);
    due("back(0)", x.back(0), 0);
    due("FAULT stays NONE", x.fault(), -1);
    due("an empty TAPE stays", x.count(4), 0);
    MoodSlips y = new MoodSlips();
    y.image(0);
    y.riddle(5, 0);
    y.back(0);
    due("a RIDDLE stays, when there was none by then", y.drawn(-1, 0), 0);
  }

  // ---- promises 40 and 41 ----

  private static void counts() {
    check.sentence(40, "0 SLIPS, 1 whether there is a QUESTION (1, 0), 2 SENTENCES one is BOUND to, 3 EXISTENCE, 4 bytes of the TAPE");
    MoodSlips x = new MoodSlips();
    for (int i = 0; i <= 12; i++) {
      due("count(0)", x.count(0), i);
      Texts.slip(x, "w is a");
    }
    due("count(0) behind a 13th", x.count(0), 12);
    due("count(1)", x.count(1), 0);
    x.take(11);
    due("count(1)", x.count(1), 1);
    x.take(0);
    due("count(1) is no number of them", x.count(1), 1);
    due("count(2)", x.count(2), 0);
    x.posit();
    for (int i = 1; i <= 12; i++) {
      due("count(2)", x.count(2), i);
      x.propose();
    }
    due("count(2) behind a 13th", x.count(2), 12);
    due("count(3)", x.count(3), 0);
    x.existence(1);
    due("count(3)", x.count(3), 1);
    for (int i = 0; i <= 20; i++) {
      due("count(4)", x.count(4), 20 * i);
      x.feed(0, 0, 0, 0, 0);
    }
    due("count(4) behind a 21st", x.count(4), 400);
    x.end(1);
    due("count(4)", x.count(4), 1);
  }

  private static void countNone() {
    check.sentence(40, "NONE for others");
    int[] wrong = {-1, 10, 11, -2, 255, 256, LOW, LOW + 5, HIGH};
    for (int what : wrong) due("count(" + what + ")", new MoodSlips().count(what), -1);
    for (int what : wrong) due("count(" + what + ")", Texts.asking("w is a", "z is h").count(what), -1);
  }

  private static void refusals(MoodSlips x, int one, int two, int three, int five, int six) {
    int[] dues = {one, two, three, five, six};
    for (int i = 0; i < 5; i++) due("count(" + (5 + i) + ")", x.count(5 + i), dues[i]);
  }

  private static void refused() {
    check.sentence(40, "5 .. 9 how many calls were REFUSED by -1, -2, -3, -5, -6");
    MoodSlips x = new MoodSlips();
    refusals(x, 0, 0, 0, 0, 0);
    x.existence(2);
    refusals(x, 1, 0, 0, 0, 0);
    x.riddle(-1, 0);
    x.image(2);
    x.back(2);
    refusals(x, 4, 0, 0, 0, 0);
    x.back(0);
    x.write(0);
    x.take(0);
    refusals(x, 4, 3, 0, 0, 0);
    x.posit();
    x.propose();
    Texts.slip(x, "w is a");
    x.write(0);
    refusals(x, 4, 3, 3, 0, 0);
    x.slip();
    x.question();
    refusals(x, 4, 3, 3, 0, 2);
    for (int i = 0; i < 11; i++) Texts.slip(x, "w is a");
    x.slip();
    x.take(0);
    x.posit();
    for (int i = 0; i < 12; i++) x.propose();
    refusals(x, 4, 3, 3, 2, 2);
  }

  private static void notRefused() {
    check.sentence(40, "how many calls were REFUSED (NONE is no refusal)");
    MoodSlips x = Texts.with("w is a");
    x.end(-1);
    x.end(1);
    x.of(5, 5);
    x.has(0, 256);
    x.letter(0, 6);
    x.quarrels(2);
    x.follows(0);
    x.least(0);
    x.between(0, 1, 1);
    x.pair(0, 0, 0);
    x.derived(4, 0, 0);
    x.bound(0);
    x.drawn(0, 0);
    x.count(10);
    for (int i = 0; i < 21; i++) x.feed(0, 0, 0, 0, 0);
    refusals(x, 0, 0, 0, 0, 0);
    due("status()", x.status(), 0);
  }

  private static void imagesKeepNoRefusals() {
    check.sentence(40, "(IMAGES do not keep that)");
    MoodSlips x = Texts.with("w is a");
    x.image(0);
    x.existence(2);
    x.take(1);
    x.posit();
    x.slip();
    x.back(0);
    refusals(x, 1, 1, 1, 0, 1);
    x.image(1);
    x.existence(2);
    x.back(1);
    refusals(x, 2, 1, 1, 0, 1);
  }

  private static void statusAhead() {
    check.sentence(41, "0 .. ahead of any");
    MoodSlips x = new MoodSlips();
    due("status()", x.status(), 0);
    x.feed(0, 0, 0, 0, 0);
    x.end(21);
    x.of(0, 0);
    x.quarrels(1);
    x.count(10);
    due("ahead of any of these", x.status(), 0);
  }

  /** A call of one of the ten, and what it is refused by; 0 if it is not. */
  private static void status(MoodSlips x, String call, int answer, int refusedBy) {
    due("status() behind " + call + ", which answered " + answer, x.status(), refusedBy);
  }

  private static void statusOfEach() {
    check.sentence(41, "What the latest call of slip, question, write, take, existence, posit, propose, riddle, image, back was REFUSED by; 0 if it was not");
    MoodSlips x = new MoodSlips();
    status(x, "slip", x.slip(), -6);
    status(x, "slip", Texts.slip(x, "w is a"), 0);
    status(x, "question", x.question(), -6);
    status(x, "write", x.write(0), -3);
    status(x, "question", Texts.question(x, "w is h"), 0);
    status(x, "write", x.write(1), -2);
    status(x, "write", x.write(0), 0);
    status(x, "take", x.take(1), -2);
    status(x, "take", x.take(0), 0);
    status(x, "existence", x.existence(2), -1);
    status(x, "existence", x.existence(1), 0);
    status(x, "existence, which was told", x.existence(1), 0);
    status(x, "propose", x.propose(), -3);
    status(x, "posit", x.posit(), 0);
    status(x, "propose, granted", x.propose(), 0);
    status(x, "posit", posit(x, NEVER), -3);
    status(x, "propose, denied", x.propose(), 0);
    status(x, "propose, beside the point", propose(x, "x is a"), 0);
    status(x, "riddle", x.riddle(0, 13), -1);
    status(x, "riddle", x.riddle(0, 12), 0);
    status(x, "image", x.image(2), -1);
    status(x, "image", x.image(1), 0);
    status(x, "back", x.back(2), -1);
    status(x, "back", x.back(0), -2);
    status(x, "back", x.back(1), 0);
    for (int i = 0; i < 12; i++) Texts.slip(x, "w is a");
    status(x, "slip", x.slip(), -5);
    x.take(0);
    x.posit();
    for (int i = 0; i < 12; i++) x.propose();
    status(x, "propose", x.propose(), -5);
  }

  private static void firstOfThese() {
    check.sentence(41, "REFUSED by: -1 .. -2 .. -3 .. -5 .. -6 .. The first of these in that order");
    MoodSlips x = new MoodSlips();
    status(x, "write: no SLIP, no QUESTION", x.write(0), -2);
    status(x, "back: no such number, not kept", x.back(-1), -1);
    status(x, "riddle: neither number can be", x.riddle(-1, 13), -1);
    status(x, "propose: no QUESTION, nothing POSITED", x.propose(), -3);
    for (int i = 0; i < 12; i++) Texts.slip(x, "w is a");
    status(x, "slip: no room, no text", x.slip(), -5);
    status(x, "slip: no room, faulty", Texts.slip(x, "w is"), -5);
    status(x, "question: no text", x.question(), -6);
    status(x, "write: no such SLIP, no QUESTION", x.write(12), -2);
    status(x, "write: no QUESTION", x.write(11), -3);
    status(x, "take: no such SLIP", x.take(12), -2);
    status(x, "posit: no QUESTION", x.posit(), -3);
    refusals(x, 2, 3, 3, 2, 1);
  }

  private static void statusStays() {
    check.sentence(41, "the latest call of slip .. back (others do not count, and it is told again)");
    MoodSlips x = Texts.asking("z is h", "w is a", "all a are b");
    x.back(1);
    due("status()", x.status(), -2);
    due("status() again", x.status(), -2);
    x.feed(0, 0, 0, 0, 0);
    x.end(0);
    x.fault();
    x.of(0, 0);
    x.has(0, 0);
    x.letter(0, 0);
    x.quarrels(0);
    x.follows(0);
    x.denied(0);
    x.open(0);
    x.idle(3);
    x.least(0);
    x.quarrel(-1);
    x.calm(0);
    x.hint(0);
    x.between(0, 0, 1);
    x.square(0, 1);
    x.says(0, 0, 0, 1);
    x.all(0, 0);
    x.world(0, -1);
    x.name(0, 0, 0);
    x.pair(0, 1, 0);
    x.wrong(0, 1, 0);
    x.derived(0, 0, 1);
    x.by(0, 0, 1, 0);
    x.derive(0);
    x.bound(-1);
    x.drawn(-1, 0);
    x.count(6);
    due("status() behind the others", x.status(), -2);
    due("count(6)", x.count(6), 1);
  }

  public static void main(String[] args) {
    posits();
    positsWithout();
    positsWhatCannotBe();
    existenceAside();
    proposes();
    proposesToDenied();
    proposesWithout();
    noRoom();
    proposedExistenceAside();
    bounds();
    seeds();
    sizes();
    notKept();
    draws();
    riddleExistenceAside();
    followFromAll();
    drawnNone();
    noImage();
    imageAnew();
    backNone();
    backNotKept();
    keeps();
    keepsBounds();
    imagesStay();
    keepsNot();
    counts();
    countNone();
    refused();
    notRefused();
    imagesKeepNoRefusals();
    statusAhead();
    statusOfEach();
    firstOfThese();
    statusStays();
    check.finish(33, 41);
  }
}
