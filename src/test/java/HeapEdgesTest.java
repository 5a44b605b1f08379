/** Promises 13 to 27 at their edges, a sentence of the document each: heaps, what follows from them, worlds, names. */
public final class HeapEdgesTest {
  private static final Check check = new Check();
  private static final int LOW = Integer.MIN_VALUE;
  private static final int HIGH = Integer.MAX_VALUE;
  /** Numbers that no kind has. */
  private static final int[] NO_KIND = {-1, 8, 9, -2, LOW, HIGH};
  private static final int[] NO_MOOD = {-1, 4, 5, -2, LOW, HIGH};
  private static final String NEVER = "there are no a or not a";
  private static final String ALWAYS = "there are a or not a";

  private static void due(String call, int got, int want) {
    check.due(call, (long) got, (long) want);
  }

  /** Twelve slips that can all be so at once. */
  private static MoodSlips twelve() {
    MoodSlips x = new MoodSlips();
    for (int i = 0; i < 12; i++) Texts.slip(x, "there are " + (char) ('a' + i % 8));
    return x;
  }

  /** Heaps with slips that there are not, for so many slips. */
  private static int[] noHeaps(int slips) {
    return new int[] {1 << slips, (1 << slips) + 1, (2 << slips) - 1, 1 << 12, 1 << 13, 1 << 30, -1, -2, LOW, LOW + 1, HIGH};
  }

  // ---- promise 13 ----

  private static void quarrelsOrNot() {
    check.sentence(13, "A HEAP QUARRELS, if no WORLD FITS it: 1, 0 (no SLIPS, all of them)");
    MoodSlips x = Texts.with("all a are b", "there are a who are not b", "w is a", "w is not b", NEVER, ALWAYS);
    int[] calm = {0, 1, 2, 4, 8, 5, 9, 6, 10, 12, 14, 32, 33, 46};
    int[] quarrel = {3, 13, 15, 16, 17, 48, 63};
    for (int heap : calm) due("quarrels(" + heap + ")", x.quarrels(heap), 0);
    for (int heap : quarrel) due("quarrels(" + heap + ")", x.quarrels(heap), 1);
  }

  private static void namesAreOfThings() {
    check.sentence(13, "NAMES w .. z: of one thing each; each NAME is of a thing there is");
    MoodSlips x = Texts.with(NEVER, "w is a who are not a", "z is h", "z is not h", "y is not h", "there are no h", "there are h");
    due("no thing at all", x.quarrels(1), 1);
    due("a thing nowhere", x.quarrels(2), 1);
    due("one thing, two REGIONS", x.quarrels(12), 1);
    due("two NAMES", x.quarrels(20), 0);
    due("a NAME where nothing can be", x.quarrels(36), 1);
    due("a thing where nothing can be", x.quarrels(96), 1);
    due("a NAME elsewhere", x.quarrels(40), 0);
    Texts.ask(x, ALWAYS);
    due("there is a thing", x.follows(0), 1);
    Texts.ask(x, "all a or not a are b or not b");
    x.existence(1);
    due("of a subject that all things are", x.follows(0), 1);
  }

  private static void quarrelsNoHeap() {
    check.sentence(13, "NONE (SLIPS that there are not)");
    for (int slips = 0; slips < 3; slips++) {
      MoodSlips x = Texts.with("w is a", "w is not a", "z is h");
      if (slips < 2) x = slips == 0 ? new MoodSlips() : Texts.with("w is a");
      for (int heap : noHeaps(x.count(0))) due("quarrels(" + heap + ")", x.quarrels(heap), -1);
      due("the HEAP of all", x.quarrels((1 << x.count(0)) - 1), slips == 2 ? 1 : 0);
    }
    MoodSlips x = twelve();
    due("quarrels(4095)", x.quarrels(4095), 0);
    due("quarrels(4096)", x.quarrels(4096), -1);
    due("quarrels(8191)", x.quarrels(8191), -1);
    due("quarrels(-4096)", x.quarrels(-4096), -1);
    Texts.ask(x, NEVER);
    due("NONE is no HEAP, with a QUESTION, too", x.quarrels(-1), -1);
  }

  // ---- promises 14 and 15 ----

  private static void followsOrNot() {
    check.sentence(14, "Whether the QUESTION FOLLOWS from a HEAP (no SLIPS, a HEAP that QUARRELS)");
    MoodSlips x = Texts.asking("all a are c", "all a are b", "all b are c", "w is h", "w is not h");
    int[] not = {0, 1, 2, 4, 8, 5, 10};
    int[] yes = {3, 7, 11, 15, 12, 13};
    for (int heap : not) due("follows(" + heap + ")", x.follows(heap), 0);
    for (int heap : yes) due("follows(" + heap + ")", x.follows(heap), 1);
    Texts.ask(x, ALWAYS);
    due("from nothing", x.follows(0), 1);
    Texts.ask(x, NEVER);
    due("never from nothing", x.follows(0), 0);
    due("from a quarrel", x.follows(12), 1);
    MoodSlips y = twelve();
    Texts.ask(y, "there are h");
    due("follows(4095)", y.follows(4095), 1);
    due("follows(3967)", y.follows(3967), 0);
  }

  private static void followsNone() {
    check.sentence(14, "NONE (no QUESTION, too)");
    MoodSlips x = Texts.with("w is a", "w is not a");
    for (int heap = 0; heap < 4; heap++) due("no QUESTION, " + heap, x.follows(heap), -1);
    for (int heap : noHeaps(2)) due("no QUESTION, " + heap, x.follows(heap), -1);
    Texts.ask(x, "w is a");
    for (int heap : noHeaps(2)) due("follows(" + heap + ")", x.follows(heap), -1);
    MoodSlips y = twelve();
    y.take(0);
    due("follows(4096)", y.follows(4096), -1);
  }

  private static void deniedOrNot() {
    check.sentence(15, "Whether it FOLLOWS that the QUESTION is not so (no SLIPS, a HEAP that QUARRELS)");
    MoodSlips x = Texts.asking("there are a who are not c", "all a are b", "all b are c", "w is h", "w is not h");
    int[] not = {0, 1, 2, 4, 8, 5, 10};
    int[] yes = {3, 7, 11, 15, 12, 13};
    for (int heap : not) due("denied(" + heap + ")", x.denied(heap), 0);
    for (int heap : yes) due("denied(" + heap + ")", x.denied(heap), 1);
    due("from a quarrel both", x.follows(12), 1);
    Texts.ask(x, NEVER);
    due("from nothing", x.denied(0), 1);
    Texts.ask(x, ALWAYS);
    due("never from nothing", x.denied(0), 0);
    due("but from a quarrel", x.denied(12), 1);
  }

  private static void deniedNone() {
    check.sentence(15, "NONE (as for follows)");
    MoodSlips x = Texts.with("w is a", "w is not a");
    for (int heap = 0; heap < 4; heap++) due("no QUESTION, " + heap, x.denied(heap), -1);
    for (int heap : noHeaps(2)) due("no QUESTION, " + heap, x.denied(heap), -1);
    Texts.ask(x, "w is a");
    for (int heap : noHeaps(2)) due("denied(" + heap + ")", x.denied(heap), -1);
  }

  // ---- promise 16 ----

  private static void openRegions() {
    check.sentence(16, "In how many REGIONS things can be by a HEAP (nothing bars them)");
    MoodSlips x = Texts.with("all a are b", "no a are b", NEVER, "there are a", "w is a", "there are not (a or b or c or d "
      + "or e or f or g or h)", "only a or b or c or d or e or f or g or h are a or not a");
    int[] heaps = {0, 1, 2, 3, 4, 7, 8, 16, 24, 27, 32, 64, 127};
    int[] dues = {256, 192, 192, 128, 0, 0, 256, 256, 256, 128, 256, 255, 0};
    for (int i = 0; i < heaps.length; i++) due("open(" + heaps[i] + ")", x.open(heaps[i]), dues[i]);
    x.existence(1);
    due("no fewer, if EXISTENCE is told", x.open(1), 192);
  }

  private static void openNone() {
    check.sentence(16, "NONE (SLIPS that there are not)");
    MoodSlips x = Texts.with("all a are b", "w is a");
    for (int heap : noHeaps(2)) due("open(" + heap + ")", x.open(heap), -1);
    for (int heap : noHeaps(0)) due("open(" + heap + ") of no SLIPS", new MoodSlips().open(heap), -1);
    due("open(4095)", twelve().open(4095), 256);
    due("open(4096)", twelve().open(4096), -1);
  }

  // ---- promise 17 ----

  private static void idleSlips() {
    check.sentence(17, "IDLE in a HEAP are SLIPS that FOLLOW from the others of it (no SLIPS, one, all)");
    MoodSlips x = Texts.with("there are a", "there are no a", "all b are c", ALWAYS, "no not b are a", "there are a who are b");
    due("of none", x.idle(0), 0);
    due("one, from no others", x.idle(1), 0);
    due("one that is always so", x.idle(8), 8);
    due("two that quarrel", x.idle(3), 0);
    due("a third one beside two that quarrel", x.idle(7), 4);
    due("by one that says more", x.idle(33), 1);
    due("by others together", x.idle(17 + 32), 1 + 32);
    MoodSlips y = Texts.with("all a are b", "all a are b", "no a are not b");
    due("alike ones, each by the others", y.idle(7), 7);
    due("two of them", y.idle(5), 5);
    due("one of them", y.idle(2), 0);
    MoodSlips z = new MoodSlips();
    for (int i = 0; i < 12; i++) Texts.slip(z, ALWAYS);
    due("twelve", z.idle(4095), 4095);
    due("the last", z.idle(2048), 2048);
  }

  private static void idleNone() {
    check.sentence(17, "NONE (SLIPS that there are not)");
    MoodSlips x = Texts.with("all a are b", "w is a");
    for (int heap : noHeaps(2)) due("idle(" + heap + ")", x.idle(heap), -1);
    for (int heap : noHeaps(0)) due("idle(" + heap + ") of no SLIPS", new MoodSlips().idle(heap), -1);
    due("idle(4096)", twelve().idle(4096), -1);
  }

  // ---- promise 18 ----

  private static void least(MoodSlips x, int size, int ways, int which) {
    due("least(0)", x.least(0), size);
    due("least(1)", x.least(1), ways);
    due("least(2)", x.least(2), which);
  }

  private static void leastOf() {
    check.sentence(18, "LEAST: the fewest SLIPS that SUFFICE; of alike ones the lowest as bits");
    String[] slips = {"all a are b", "all b are c", "all a are d", "all d are c", "w is a"};
    least(Texts.asking("all a are c", slips), 2, 2, 3);
    least(Texts.asking("w is b", slips), 2, 1, 17);
    least(Texts.asking("w is c", slips), 3, 2, 19);
    least(Texts.asking("there are a", slips), 1, 1, 16);
    least(Texts.asking("there are a", "z is h", "there are a", "x is a", "all h are a"), 1, 2, 2);
    String[] pairs = {"ab", "ac", "ad", "ae", "af", "ag", "ah", "bc", "bd", "be", "bf", "bg"};
    MoodSlips x = new MoodSlips();
    for (String p : pairs) Texts.slip(x, "no " + p.charAt(0) + " are " + p.charAt(1));
    Texts.ask(x, "there are no a who are (b or c or d or e or f or g or h) or b who are (c or d or e or f or g)");
    least(x, 12, 1, 4095);
  }

  private static void leastOfNone() {
    check.sentence(18, "A HEAP SUFFICES, if it does not QUARREL and the QUESTION FOLLOWS from it (no SLIPS, too)");
    least(Texts.asking(ALWAYS), 0, 1, 0);
    least(Texts.asking(ALWAYS, "all a are b", ALWAYS), 0, 1, 0);
    least(Texts.asking("all a are a", "w is a", "w is not a"), 0, 1, 0);
  }

  private static void noneSuffices() {
    check.sentence(18, "NONE (.. if none SUFFICES, for 0, 2; 0 then for 1)");
    least(Texts.asking("there are a"), -1, 0, -1);
    least(Texts.asking("there are h", "all a are b", "w is a"), -1, 0, -1);
    least(Texts.asking("there are h", "there are a", "there are no a"), -1, 0, -1);
    least(Texts.asking("there are h", NEVER), -1, 0, -1);
    least(Texts.asking(NEVER, "w is a", "w is not a"), -1, 0, -1);
    least(Texts.asking("there are h", "there are a", "there are no a", "z is h"), 1, 1, 4);
  }

  private static void leastNone() {
    check.sentence(18, "NONE (no QUESTION ..)");
    MoodSlips x = Texts.with("all a are b", ALWAYS);
    int[] what = {0, 1, 2, 3, -1, LOW, HIGH};
    for (int w : what) due("no QUESTION: least(" + w + ")", x.least(w), -1);
    x.take(0);
    least(x, 1, 1, 1);
    int[] wrong = {-1, 3, 4, -2, LOW, HIGH};
    for (int w : wrong) due("least(" + w + ")", x.least(w), -1);
  }

  // ---- promise 19 ----

  private static void quarrel(MoodSlips x, int... heaps) {
    due("quarrel(NONE)", x.quarrel(-1), heaps.length);
    for (int i = 0; i < heaps.length; i++) due("quarrel(" + i + ")", x.quarrel(i), heaps[i]);
    int[] wrong = {heaps.length, heaps.length + 1, -2, 4096, LOW, HIGH};
    for (int i : wrong) due("quarrel(" + i + ")", x.quarrel(i), -1);
  }

  private static void quarrelsInOrder() {
    check.sentence(19, "QUARRELLING heaps are LEAST, if no SLIP can be left out of them ..; in the order of their bits");
    quarrel(Texts.with("there are a", "there are a who are b", "no a are b", "there are no a", "all a are b"), 6, 9, 10, 21);
    quarrel(Texts.with("w is a", NEVER, "w is not a", "x is a who are not a"), 2, 5, 8);
    quarrel(Texts.with("all a are b", "all b are c", "there are a", "no a are c", "w is c"), 15);
    MoodSlips x = new MoodSlips();
    for (int i = 0; i < 12; i++) Texts.slip(x, NEVER);
    quarrel(x, 1, 2, 4, 8, 16, 32, 64, 128, 256, 512, 1024, 2048);
    MoodSlips y = new MoodSlips();
    for (int i = 0; i < 11; i++) Texts.slip(y, "there are " + (char) ('a' + i % 8));
    Texts.slip(y, "there are no h or c");
    quarrel(y, 2048 + 4, 2048 + 128, 2048 + 1024);
  }

  private static void noQuarrel() {
    check.sentence(19, "(i NONE: how many). NONE. (no quarrel at all)");
    quarrel(new MoodSlips());
    quarrel(Texts.with("all a are b", "no a are b"));
    quarrel(twelve());
    MoodSlips x = Texts.with("all a are b", "no a are b");
    x.existence(1);
    quarrel(x, 3);
    x.existence(0);
    quarrel(x);
    MoodSlips y = Texts.with("w is a", "w is not a");
    due("asked for a HEAP of none", y.quarrels(0), 0);
    quarrel(y, 3);
  }

  // ---- promise 20 ----

  private static void calm(MoodSlips x, int size, int ways, int which) {
    due("calm(0)", x.calm(0), size);
    due("calm(1)", x.calm(1), ways);
    due("calm(2)", x.calm(2), which);
  }

  private static void calmBy() {
    check.sentence(20, "The fewest SLIPS that must be left out so that the others do not QUARREL (what 0), in how many ways (1), "
      + "which, the lowest as bits (2) (none, all of them)");
    calm(new MoodSlips(), 0, 1, 0);
    calm(Texts.with("all a are b"), 0, 1, 0);
    calm(twelve(), 0, 1, 0);
    calm(Texts.with(NEVER), 1, 1, 1);
    calm(Texts.with("w is a", "w is not a"), 1, 2, 1);
    calm(Texts.with("there are a", "there are no a", "there are a", "z is a"), 1, 1, 2);
    calm(Texts.with("z is h", "w is a", "w is not a", "x is b", "x is not b"), 2, 4, 10);
    MoodSlips x = new MoodSlips();
    for (int i = 0; i < 12; i++) Texts.slip(x, NEVER);
    calm(x, 12, 1, 4095);
    MoodSlips y = Texts.with("all a are b", "no a are b");
    calm(y, 0, 1, 0);
    y.existence(1);
    calm(y, 1, 2, 1);
    y.existence(0);
    calm(y, 0, 1, 0);
  }

  private static void calmNone() {
    check.sentence(20, "NONE (nothing of that number)");
    MoodSlips x = Texts.with("w is a", "w is not a");
    int[] wrong = {-1, 3, 4, -2, LOW, HIGH};
    for (int what : wrong) {
      due("calm(" + what + ")", x.calm(what), -1);
      due("calm(" + what + ") of no SLIPS", new MoodSlips().calm(what), -1);
    }
  }

  // ---- promise 21 ----

  private static void hints() {
    check.sentence(21, "The first simple sentence by its NUMBER .. that SUFFICES together with a HEAP: its NUMBER");
    due("the first of all, to what follows anyhow", Texts.asking(ALWAYS).hint(0), 1);
    due("the last of all", Texts.asking("there are h who are not g").hint(0), 254);
    due("some g are h", Texts.asking("there are h who are g").hint(0), 128 + 8 * 6 + 7);
    due("a middle", Texts.asking("all h are a", "all g are a").hint(1), 8 * 7 + 6);
    MoodSlips x = Texts.asking("some a are b", "all a are b");
    due("by all and what there is", x.hint(1), 130);
    x.existence(1);
    due("it says that its subject is, if EXISTENCE is told", x.hint(0), 1);
    x.existence(0);
    due("else not", x.hint(0), 128 + 8);
  }

  private static void hintNotItself() {
    check.sentence(21, "not that which the QUESTION is");
    due("nothing else gives it", Texts.asking("all a are b").hint(0), -1);
    due("the same as a MOOD", Texts.asking("only b are a").hint(0), -1);
    due("the same as a MOOD", Texts.asking("none but b are a").hint(0), -1);
    due("what is alike is another one", Texts.asking("no a are b").hint(0), 64 + 8);
    due("what is alike is another one", Texts.asking("no b are a").hint(0), 64 + 1);
    due("not SIMPLE, so none is it", Texts.asking("there are no a who are not b").hint(0), 1);
    due("when it follows anyhow", Texts.asking("all a are b", "all a are b").hint(1), 2);
    due("when it follows anyhow, another one", Texts.asking("all a are c", "all a are c").hint(1), 1);
    due("the last of all", Texts.asking("some h are not g").hint(0), -1);
  }

  private static void hintQuarrels() {
    check.sentence(21, "SUFFICES, if it does not QUARREL ..");
    due("all that gives it quarrels", Texts.asking("there are h who are g", "there are no g").hint(1), -1);
    due("the heap quarrels", Texts.asking("w is a", "w is a", "w is not a").hint(3), -1);
    due("what quarrels is passed over", Texts.asking("w is b", "w is a who are b", "some a are not b", "all c are b").hint(3), 2);
  }

  private static void hintNone() {
    check.sentence(21, "NONE (there is none, no QUESTION, too)");
    MoodSlips x = Texts.with("all a are b", "w is a");
    for (int heap = 0; heap < 4; heap++) due("no QUESTION: hint(" + heap + ")", x.hint(heap), -1);
    Texts.ask(x, "z is h");
    for (int heap = 0; heap < 4; heap++) due("none gives it: hint(" + heap + ")", x.hint(heap), -1);
    Texts.ask(x, ALWAYS);
    for (int heap = 0; heap < 4; heap++) due("each gives it: hint(" + heap + ")", x.hint(heap), 1);
    for (int heap : noHeaps(2)) due("hint(" + heap + ")", x.hint(heap), -1);
    Texts.ask(x, NEVER);
    due("what can't be", x.hint(0), -1);
  }

  // ---- promise 22 ----

  private static void betweenKinds() {
    check.sentence(22, "of MOODS 0 .. 3 with the first as subject (bits 0 .. 3), of MOODS 0, 3 with the second as subject (4, 5)");
    MoodSlips x = Texts.with("all h are a", "no h are a", "some h are a", "some h are not a", NEVER);
    int[] heaps = {0, 1, 2, 4, 8, 5, 10, 9, 31};
    int[] fromH = {0, 1, 2, 4, 8, 5, 10, 63, 63};
    int[] fromA = {0, 16, 2, 4, 32, 20, 34, 63, 63};
    for (int i = 0; i < heaps.length; i++) {
      due("between(" + heaps[i] + ", 7, 0)", x.between(heaps[i], 7, 0), fromH[i]);
      due("between(" + heaps[i] + ", 0, 7)", x.between(heaps[i], 0, 7), fromA[i]);
    }
    x.existence(1);
    due("told: all h are a", x.between(1, 7, 0), 5);
    due("told: all h are a, turned", x.between(1, 0, 7), 20);
    due("told: no h are a", x.between(2, 7, 0), 10);
    due("told: no h are a, turned", x.between(2, 0, 7), 32);
  }

  private static void betweenNone() {
    check.sentence(22, "NONE (the same one, too)");
    MoodSlips x = Texts.with("all h are a", NEVER);
    for (int kind = 0; kind < 8; kind++) due("the same one: " + kind, x.between(3, kind, kind), -1);
    for (int kind : NO_KIND) {
      due("between(1, " + kind + ", 0)", x.between(1, kind, 0), -1);
      due("between(1, 0, " + kind + ")", x.between(1, 0, kind), -1);
      due("between(1, " + kind + ", " + kind + ")", x.between(1, kind, kind), -1);
    }
    for (int heap : noHeaps(2)) due("between(" + heap + ", 7, 0)", x.between(heap, 7, 0), -1);
  }

  // ---- promise 23 ----

  private static void squareOf(String one, String other, int there, int back) {
    MoodSlips x = Texts.with(one, other);
    due(one + " / " + other, x.square(0, 1), there);
    due(other + " / " + one, x.square(1, 0), back);
  }

  private static void squares() {
    check.sentence(23, "ALIKE (1) .. CONTRADICTORY (6) .. CONTRARY (4) .. SUBCONTRARY (5) .. FOLLOWS (2), (3); else 0");
    squareOf("no a are b", "no b are a", 1, 1);
    squareOf("w is a", "w is not a", 6, 6);
    squareOf("all a are b", "some a are not b", 6, 6);
    squareOf("no a are b", "some a are b", 6, 6);
    squareOf("w is a who are b", "w is not a", 4, 4);
    squareOf("w is a or b", "w is not a", 5, 5);
    squareOf("there are a who are b", "there are a", 2, 3);
    squareOf("there are a", "there are b", 0, 0);
    squareOf("all a are b", "no a are b", 0, 0);
    squareOf("some a are b", "some a are not b", 0, 0);
    squareOf("w is a", "x is a", 0, 0);
    due("the same SLIP", Texts.with("w is a").square(0, 0), 1);
  }

  private static void squareOrder() {
    check.sentence(23, "the first of these in this order");
    squareOf(NEVER, "w is b who are not b", 1, 1);
    squareOf(ALWAYS, "all b are b", 1, 1);
    squareOf(NEVER, ALWAYS, 6, 6);
    squareOf(NEVER, "w is a", 4, 4);
    squareOf(ALWAYS, "w is a", 5, 5);
    due("never, and itself", Texts.with(NEVER).square(0, 0), 1);
  }

  private static void squareTold() {
    check.sentence(23, "they can't both be so (EXISTENCE told: they can both not be so)");
    MoodSlips x = Texts.with("all a are b", "no a are b", "some a are b", "some a are not b", "all a are b who are a");
    x.existence(1);
    int[][] dues = {{0, 1, 4}, {1, 0, 4}, {0, 2, 2}, {2, 0, 3}, {0, 3, 4}, {1, 2, 4}, {1, 3, 2}, {2, 3, 0}, {0, 4, 1}, {1, 1, 1}};
    for (int[] d : dues) due("told: square(" + d[0] + ", " + d[1] + ")", x.square(d[0], d[1]), d[2]);
    MoodSlips y = Texts.with("all a or not a are b or not b", "w is a", NEVER, "all a are b", "some a are not b",
      "no a or not a are b who are not b");
    y.existence(1);
    int[][] always = {{0, 1, 5}, {1, 0, 5}, {0, 2, 6}, {2, 0, 6}, {0, 3, 5}, {3, 0, 5}, {3, 4, 4}, {0, 5, 1}};
    for (int[] d : always) due("told: square(" + d[0] + ", " + d[1] + ") of one that is always so", y.square(d[0], d[1]), d[2]);
  }

  private static void squareNone() {
    check.sentence(23, "NONE (no such SLIP)");
    MoodSlips x = Texts.asking("w is a", "w is a", "w is not a");
    int[] none = {2, 11, 12, -1, -2, LOW, HIGH};
    for (int slip : none) {
      due("square(" + slip + ", 0)", x.square(slip, 0), -1);
      due("square(1, " + slip + ")", x.square(1, slip), -1);
      due("square(" + slip + ", " + slip + ")", x.square(slip, slip), -1);
    }
    due("square(0, 1)", x.square(0, 1), 6);
    MoodSlips y = twelve();
    due("the last of twelve", y.square(11, 3), 1);
    due("one behind it", y.square(12, 3), -1);
    due("one behind it", y.square(3, 12), -1);
  }

  // ---- promise 24 ----

  private static void saysSo() {
    check.sentence(24, "Whether the simple sentence of a MOOD, subject and predicate FOLLOWS from a HEAP: 1, 0");
    MoodSlips x = Texts.with("all h are a", "no h are b", "some h are c", "some h are not d", "w is a", "w is not a");
    int[][] dues = {{1, 0, 7, 0, 1}, {1, 0, 0, 7, 0}, {2, 1, 7, 1, 1}, {2, 1, 1, 7, 1}, {4, 2, 7, 2, 1}, {4, 2, 2, 7, 1},
      {8, 3, 7, 3, 1}, {8, 3, 3, 7, 0}, {0, 0, 7, 0, 0}, {0, 3, 0, 7, 0}, {48, 0, 7, 0, 1}, {48, 3, 0, 7, 1}, {63, 2, 5, 6, 1}};
    for (int[] d : dues) {
      String call = "says(" + d[0] + ", " + d[1] + ", " + d[2] + ", " + d[3] + ")";
      due(call, x.says(d[0], d[1], d[2], d[3]), d[4]);
    }
    due("untold", x.says(1, 2, 7, 0), 0);
    x.existence(1);
    due("told", x.says(1, 2, 7, 0), 1);
    due("told: E of the other subject", x.says(2, 1, 1, 7), 0);
  }

  private static void saysNone() {
    check.sentence(24, "NONE (the same KIND, too)");
    MoodSlips x = Texts.with("all h are a", NEVER);
    for (int mood = 0; mood < 4; mood++)
      for (int kind = 0; kind < 8; kind++) due("the same KIND: " + kind, x.says(2, mood, kind, kind), -1);
    for (int kind : NO_KIND) {
      due("says(1, 0, " + kind + ", 0)", x.says(1, 0, kind, 0), -1);
      due("says(1, 0, 7, " + kind + ")", x.says(1, 0, 7, kind), -1);
    }
    for (int mood : NO_MOOD) due("says(1, " + mood + ", 7, 0)", x.says(1, mood, 7, 0), -1);
    for (int heap : noHeaps(2)) due("says(" + heap + ", 0, 7, 0)", x.says(heap, 0, 7, 0), -1);
  }

  // ---- promise 25 ----

  private static void allOf() {
    check.sentence(25, "How many simple sentences of a MOOD FOLLOW from a HEAP (of 56)");
    MoodSlips x = Texts.with("there are no a", "there are no a or b or c or d or e or f or g or h", NEVER,
      "there are a who are b who are c who are d who are e who are f who are g who are h",
      "w is a who are not (b or c or d or e or f or g or h)");
    int[][] dues = {{0, 0, 0, 0, 0}, {1, 7, 14, 0, 0}, {2, 56, 56, 0, 0}, {4, 56, 56, 56, 56}, {8, 0, 0, 56, 0},
      {16, 0, 0, 0, 7}, {17, 56, 56, 56, 56}, {31, 56, 56, 56, 56}};
    for (int[] d : dues)
      for (int mood = 0; mood < 4; mood++) due("all(" + d[0] + ", " + mood + ")", x.all(d[0], mood), d[1 + mood]);
    x.existence(1);
    due("told: of no thing nothing is said", x.all(2, 0), 0);
    due("told: of no thing nothing is said", x.all(2, 1), 0);
    due("told: of a quarrel all", x.all(4, 0), 56);
  }

  private static void allNone() {
    check.sentence(25, "NONE (no such MOOD, SLIPS that there are not)");
    MoodSlips x = Texts.with("all h are a", NEVER);
    for (int mood : NO_MOOD) due("all(3, " + mood + ")", x.all(3, mood), -1);
    for (int heap : noHeaps(2)) due("all(" + heap + ", 0)", x.all(heap, 0), -1);
  }

  // ---- promise 26 ----

  /** The row of the DENYING WORLD; an empty one, if there is none. */
  private static void world(MoodSlips x, int heap, int... regions) {
    due("world(" + heap + ", NONE)", x.world(heap, -1), regions.length == 0 ? -1 : regions.length);
    for (int i = 0; i < regions.length; i++) due("world(" + heap + ", " + i + ")", x.world(heap, i), regions[i]);
    int[] wrong = {regions.length, regions.length + 1, -2, 255, LOW, HIGH};
    for (int i : wrong) due("world(" + heap + ", " + i + ")", x.world(heap, i), -1);
  }

  /** There is a thing of one kind alone. */
  private static String aloneIn(char kind) {
    StringBuilder others = new StringBuilder();
    for (char c = 'a'; c <= 'h'; c++) if (c != kind) others.append(others.length() == 0 ? "" : " or ").append(c);
    return "there are " + kind + " who are not (" + others + ")";
  }

  private static void worlds() {
    check.sentence(26, "DENYING .. the fewest REGIONS in which things are; of such the first as a row of REGIONS, each once, lower ones ahead");
    world(Texts.asking("there are a"), 0, 0);
    world(Texts.asking("all a are b"), 0, 1);
    world(Texts.asking("there are not (a who are b who are c who are d who are e who are f who are g who are h)"), 0, 255);
    MoodSlips x = Texts.asking("there are h", "w is a", "there are a", "x is b", "there are a who are not b", "y is b who are not a",
      "there are c who are not (a or b)", "z is not (a or b or c)");
    world(x, 3, 1);
    world(x, 5, 3);
    world(x, 15, 1, 2);
    world(x, 31, 1, 2);
    world(x, 63, 1, 2, 4);
    world(x, 127, 0, 1, 2, 4);
    world(x, 6, 3);
    MoodSlips y = Texts.asking("there are no b", "there are c who are a", "there are a who are not c", "all a are d");
    world(y, 7, 9, 15);
    MoodSlips z = new MoodSlips();
    for (int i = 0; i < 8; i++) Texts.slip(z, aloneIn("abcdefgh".charAt(i)));
    Texts.slip(z, "w is a who are b who are not (c or d or e or f or g or h)");
    Texts.slip(z, "x is a who are c who are not (b or d or e or f or g or h)");
    Texts.slip(z, "y is a who are d who are not (b or c or e or f or g or h)");
    Texts.slip(z, "z is a who are e who are not (b or c or d or f or g or h)");
    Texts.ask(z, "no f are g");
    world(z, 4095, 1, 2, 3, 4, 5, 8, 9, 16, 17, 32, 64, 96, 128);
    Texts.ask(z, "there are a who are h");
    world(z, 4095, 1, 2, 3, 4, 5, 8, 9, 16, 17, 32, 64, 128);
  }

  private static void worldsInTurn() {
    check.sentence(26, "of such the first as a row of REGIONS, each once, lower ones ahead (whatever was asked ahead)");
    MoodSlips x = Texts.asking("there are h", "there are c who are not (a or b)", "there are b who are not (a or c)",
      "there are a who are not (b or c)", "there are c", "there are b", "there are a");
    world(x, 56, 7);
    world(x, 7, 1, 2, 4);
    world(x, 56, 7);
    world(x, 3, 2, 4);
    world(x, 5, 1, 4);
    world(x, 48, 3);
    world(x, 6, 1, 2);
    world(x, 1, 4);
    world(x, 0, 0);
    MoodSlips y = new MoodSlips();
    for (int i = 7; i >= 0; i--) Texts.slip(y, aloneIn("abcdefgh".charAt(i)));
    Texts.slip(y, "there are a who are b who are not (c or d or e or f or g or h)");
    Texts.slip(y, "there are a who are c who are not (b or d or e or f or g or h)");
    Texts.slip(y, "there are a who are d who are not (b or c or e or f or g or h)");
    Texts.slip(y, "there are not (a or b or c or d or e or f or g or h)");
    Texts.ask(y, "x is h");
    world(y, 4095, 0, 1, 2, 3, 4, 5, 8, 9, 16, 32, 64, 128);
    Texts.ask(y, "no g are h");
    world(y, 4095, 0, 1, 2, 3, 4, 5, 8, 9, 16, 32, 64, 128, 192);
  }

  private static void worldsTold() {
    check.sentence(26, "the QUESTION is not so (EXISTENCE told: no thing of its subject, too)");
    MoodSlips x = Texts.asking("all a are b", "there are c", "w is a", "no a are not b");
    world(x, 1, 5);
    x.existence(1);
    world(x, 0, 0);
    world(x, 1, 4);
    world(x, 2, 1);
    world(x, 6);
    Texts.ask(x, "only b are a");
    world(x, 1, 4);
    Texts.ask(x, "only a are b");
    world(x, 1, 4);
    Texts.ask(x, "there are no a");
    world(x, 0, 1);
    Texts.ask(x, "all not a are b");
    world(x, 0, 0);
    MoodSlips y = Texts.asking("all a are b", "there are c who are not a", "there are a or (d who are not c)",
      "there are a or (c who are not d)");
    y.existence(1);
    world(y, 1, 4);
    world(y, 6, 1);
    world(y, 7, 1, 4);
    world(y, 2, 1);
  }

  private static void noWorld() {
    check.sentence(26, "NONE (there is none, no QUESTION, too)");
    MoodSlips x = Texts.with("w is a", "w is not a", "x is b");
    for (int heap = 0; heap < 8; heap++) {
      due("no QUESTION: world(" + heap + ", NONE)", x.world(heap, -1), -1);
      due("no QUESTION: world(" + heap + ", 0)", x.world(heap, 0), -1);
    }
    Texts.ask(x, "there are a");
    world(x, 4, 2);
    world(x, 1);
    world(x, 5);
    world(x, 3);
    world(x, 7);
    Texts.ask(x, ALWAYS);
    world(x, 0);
    for (int heap : noHeaps(3)) {
      due("world(" + heap + ", NONE)", x.world(heap, -1), -1);
      due("world(" + heap + ", 0)", x.world(heap, 0), -1);
    }
  }

  // ---- promise 27 ----

  private static void names() {
    check.sentence(27, "In how many REGIONS the thing of a NAME can be by a HEAP (what 0), the lowest (1)");
    MoodSlips x = Texts.with("w is a", "z is a who are b who are c who are d who are e who are f who are g who are h",
      "there are no not a", "z is not (a or b or c or d or e or f or g or h)", "x is h", "no h are a", "there are h");
    int[][] dues = {{0, 0, 256, 0}, {0, 3, 256, 0}, {1, 0, 128, 1}, {1, 1, 256, 0}, {2, 3, 1, 255}, {4, 2, 128, 1}, {8, 3, 1, 0},
      {16, 1, 128, 128}, {48, 1, 64, 128}, {33, 0, 64, 1}, {64, 0, 256, 0}, {20, 1, 64, 129}};
    for (int[] d : dues) {
      due("name(" + d[0] + ", " + d[1] + ", 0)", x.name(d[0], d[1], 0), d[2]);
      due("name(" + d[0] + ", " + d[1] + ", 1)", x.name(d[0], d[1], 1), d[3]);
    }
  }

  private static void namesQuarrel() {
    check.sentence(27, "NONE (the HEAP QUARRELS, too)");
    MoodSlips x = Texts.with("w is a", "w is not a", NEVER, "there are no h", "there are h");
    int[] quarrel = {3, 4, 24, 31};
    for (int heap : quarrel)
      for (int name = 0; name < 4; name++)
        for (int what = 0; what < 2; what++) due("name(" + heap + ", " + name + ", " + what + ")", x.name(heap, name, what), -1);
    due("no quarrel", x.name(9, 0, 0), 64);
  }

  private static void noName() {
    check.sentence(27, "NONE (no such NAME, nothing of that number, SLIPS that there are not)");
    MoodSlips x = Texts.with("w is a", "z is h");
    int[] wrong = {-1, 4, 5, -2, LOW, HIGH};
    for (int name : wrong)
      for (int what = 0; what < 2; what++) due("name(1, " + name + ", " + what + ")", x.name(1, name, what), -1);
    int[] nothing = {-1, 2, 3, -2, LOW, HIGH};
    for (int what : nothing) due("name(1, 0, " + what + ")", x.name(1, 0, what), -1);
    for (int heap : noHeaps(2)) due("name(" + heap + ", 0, 0)", x.name(heap, 0, 0), -1);
    due("NAME w", x.name(3, 0, 1), 1);
    due("NAME z", x.name(3, 3, 1), 128);
  }

  public static void main(String[] args) {
    quarrelsOrNot();
    namesAreOfThings();
    quarrelsNoHeap();
    followsOrNot();
    followsNone();
    deniedOrNot();
    deniedNone();
    openRegions();
    openNone();
    idleSlips();
    idleNone();
    leastOf();
    leastOfNone();
    noneSuffices();
    leastNone();
    quarrelsInOrder();
    noQuarrel();
    calmBy();
    calmNone();
    hints();
    hintNotItself();
    hintQuarrels();
    hintNone();
    betweenKinds();
    betweenNone();
    squares();
    squareOrder();
    squareTold();
    squareNone();
    saysSo();
    saysNone();
    allOf();
    allNone();
    worlds();
    worldsInTurn();
    worldsTold();
    noWorld();
    names();
    namesQuarrel();
    noName();
    check.finish(13, 27);
  }
}
