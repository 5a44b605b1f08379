/** Each promise once by hand: ordinary calls, the edges that the document names, and wrong inputs. */
public final class FaceTest {
  private static final Check check = new Check();
  private static final int LOW = Integer.MIN_VALUE;
  private static final int HIGH = Integer.MAX_VALUE;

  private static void due(String call, int got, int want) {
    check.due(call, (long) got, (long) want);
  }

  private static MoodSlips with(String... slips) {
    MoodSlips x = new MoodSlips();
    for (int i = 0; i < slips.length; i++) due(slips[i], Texts.slip(x, slips[i]), i);
    return x;
  }

  /** Promise 1. */
  private static void newObject() {
    MoodSlips x = new MoodSlips();
    for (int what = 0; what <= 9; what++) due("new: count " + what, x.count(what), 0);
    due("new: fault", x.fault(), -1);
    due("new: status", x.status(), 0);
    due("new: question", x.of(-1, 0), -1);
    due("new: bound", x.bound(-1), 0);
    due("new: derive", x.derive(0), 0);
    due("new: rounds", x.derive(1), 0);
    due("new: calm 0", x.calm(0), 0);
    due("new: calm 1", x.calm(1), 1);
    due("new: calm 2", x.calm(2), 0);
    due("new: idle", x.idle(0), 0);
    due("new: all", x.all(0, 0), 0);
    due("new: name", x.name(0, 3, 0), 256);
    due("new: lowest", x.name(0, 3, 1), 0);
    due("new: back", x.back(0), -2);
    due("new: drawn", x.drawn(0, 0), -1);
    due("new: drawn A", x.drawn(-1, 0), -1);
    due("new: drawn E", x.drawn(-1, 1), -1);
  }

  /** Promises 2 and 3. */
  private static void tape() {
    MoodSlips x = new MoodSlips();
    for (int i = 1; i <= 20; i++) due("feed " + i, x.feed(0x61626364, 0x65666768, 0, -1, 0x20202020), 20 * i);
    due("feed over", x.feed(0, 0, 0, 0, 0), -1);
    due("tape full", x.count(4), 400);
    due("end 401", x.end(401), -1);
    due("end -1", x.end(-1), -1);
    due("end low", x.end(LOW), -1);
    due("end high", x.end(HIGH), -1);
    due("end 400", x.end(400), 400);
    due("end 381", x.end(381), 381);
    due("feed at 381", x.feed(0, 0, 0, 0, 0), -1);
    due("end 380", x.end(380), 380);
    due("feed at 380", x.feed(0, 0, 0, 0, 0), 400);
    due("end 0", x.end(0), 0);
    due("end 1", x.end(1), -1);
    due("not refused", x.count(5), 0);
    due("status", x.status(), 0);
    due("highest first", x.feed(0x77206973, 0x20612020, 0, 0, 0), 20);
    due("end 6", x.end(6), 6);
    due("w is a", x.question(), 0);
    check.due("written", Texts.written(x, -1), "w is a");
  }

  /** Promises 4 to 6. */
  private static void reading() {
    MoodSlips x = new MoodSlips();
    for (int i = 0; i < 12; i++) due("slip " + i, Texts.slip(x, "some a are b"), i);
    due("bad question", Texts.question(x, "all a is b"), -6);
    due("its fault", x.fault(), 6);
    due("status", x.status(), -6);
    due("no question", x.count(1), 0);
    Texts.feed(x, "some nonsense");
    due("no room", x.slip(), -5);
    due("status -5", x.status(), -5);
    due("tape empty", x.count(4), 0);
    due("fault stays", x.fault(), 6);
    due("no room for a good one", Texts.slip(x, "no a are b"), -5);
    due("question", Texts.question(x, "no a are b"), 0);
    due("tape empty after", x.count(4), 0);
    due("no fault", x.fault(), -1);
    due("bad one", Texts.question(x, "no a are"), -6);
    check.due("the one before stays", Texts.written(x, -1), "no a are b");
    due("tape empty after bad", x.count(4), 0);
    due("refused -5", x.count(8), 2);
    due("refused -6", x.count(9), 2);
    due("slips", x.count(0), 12);
    due("empty", x.question(), -6);
    due("empty's fault", x.fault(), 0);
    due("blanks", Texts.question(x, "     "), -6);
    due("blanks' fault", x.fault(), 5);
    String[] words = {"all az are b", "all ah are b", "all za are b", "all hh are b", "allx a are b", "all a areb", "wx is a",
      "all i are b", "w is z", "all A are b", "some a are nota", "all a are b.", "none a are b", "there a", "w is no a"};
    int[] places = {4, 4, 4, 4, 0, 6, 0, 4, 5, 4, 11, 11, 5, 6, 5};
    for (int i = 0; i < words.length; i++) {
      due(words[i], Texts.question(x, words[i]), -6);
      due("fault of " + words[i], x.fault(), places[i]);
    }
    due("trailing", Texts.question(x, "z is a a"), -6);
    due("trailing's fault", x.fault(), 7);
  }

  /** Promises 7 to 9. */
  private static void writing() {
    MoodSlips x = with("all a are b", "some b are not c");
    due("write without", x.write(0), -3);
    due("write 2", x.write(2), -2);
    due("write -1", x.write(-1), -2);
    due("write high", x.write(HIGH), -2);
    due("write low", x.write(LOW), -2);
    due("take 2", x.take(2), -2);
    due("take -1", x.take(-1), -2);
    due("status", x.status(), -2);
    due("take 1", x.take(1), 0);
    due("status 0", x.status(), 0);
    check.due("question", Texts.written(x, -1), "some b are not c");
    due("write 0", x.write(0), 0);
    check.due("slip 0", Texts.written(x, 0), "some b are not c");
    Texts.question(x, "z is h");
    check.due("slip 0 stays", Texts.written(x, 0), "some b are not c");
    due("refused -2", x.count(6), 6);
    due("refused -3", x.count(7), 1);
    due("existence", x.existence(1), 0);
    due("again", x.existence(1), 1);
    due("count 3", x.count(3), 1);
    due("existence 2", x.existence(2), -1);
    due("existence -1", x.existence(-1), -1);
    due("status", x.status(), -1);
    due("still told", x.existence(0), 1);
    due("refused -1", x.count(5), 2);
  }

  /** Promises 10 to 12. */
  private static void sentences() {
    MoodSlips x = with("none but h are (a)", "there are no a who are not a", "y is not a or b", "all a are a",
      "there are not a", "some (not b) or c are (not b) or c");
    int[][] dues = {{0, 0, 0, 7, -1, 64}, {0, -1, -1, -1, -1, 0}, {2, -1, -1, -1, 2, 64}, {0, -1, -1, -1, -1, 0},
      {1, -1, -1, -1, -1, 128}, {1, -1, -1, -1, -1, 192}};
    for (int slip = 0; slip < dues.length; slip++)
      for (int what = 0; what < 6; what++) due("of " + slip + " " + what, x.of(slip, what), dues[slip][what]);
    due("of 0 6", x.of(0, 6), -1);
    due("of 0 -1", x.of(0, -1), -1);
    due("of 6", x.of(6, 0), -1);
    due("of -2", x.of(-2, 0), -1);
    due("of -1", x.of(-1, 0), -1);
    due("has 0 255", x.has(0, 255), 0);
    due("has 0 127", x.has(0, 127), 1);
    due("has 0 0", x.has(0, 0), 0);
    due("has 4 0", x.has(4, 0), 1);
    due("has 4 255", x.has(4, 255), 0);
    due("has -1", x.has(4, -1), -1);
    due("has 256", x.has(4, 256), -1);
    due("has low", x.has(4, LOW), -1);
    due("has high", x.has(4, HIGH), -1);
    due("has of none", x.has(-1, 0), -1);
    check.due("0", Texts.written(x, 0), "none but h are a");
    check.due("2", Texts.written(x, 2), "y is not a or b");
    check.due("5", Texts.written(x, 5), "some not b or c are (not b or c)");
    due("letter -2", x.letter(0, -2), -1);
    due("letter 16", x.letter(0, 16), -1);
    due("letter 15", x.letter(0, 15), 'a');
    due("letter of none", x.letter(-1, -1), -1);
    due("letter of 6", x.letter(6, -1), -1);
    String[][] written = {
      {"all(a or b)or c are d", "all a or b or c are d"}, {"all a or(b or c)are d", "all a or (b or c) are d"},
      {"no (a who are b) who are c are d", "no a who are b who are c are d"},
      {"no a who are (b who are c) are d", "no a who are (b who are c) are d"},
      {"only (a who are b) or (not c) are not (not d)", "only a who are b or not c are not not d"},
      {"there are not(a who are b)", "there are not (a who are b)"}, {"there are not(not(a))", "there are not not a"},
      {"there are no (not a)", "there are no not a"}, {"w is ((not a)) who are b", "w is (not a who are b)"},
      {"w is (not a or c) who are b", "w is (not a or c) who are b"}, {"w is not(not a)", "w is not not a"},
      {"w is not(a or b)", "w is not a or b"}, {"some a are(b)", "some a are b"},
      {"  some   a are not  ( b or c )", "some a are not b or c"}};
    for (String[] w : written) {
      due(w[0], Texts.question(x, w[0]), 0);
      check.due(w[0], Texts.written(x, -1), w[1]);
    }
  }

  /** Promises 13 to 17. */
  private static void heaps() {
    MoodSlips x = with("all a are b", "there are a who are not b", "w is a", "w is not b", "there are no a or not a");
    due("no question", x.follows(0), -1);
    due("no question", x.denied(0), -1);
    int[] quarrels = {0, 0, 0, 1, 0, 0, 0, 1, 0, 0, 0, 1, 0, 1, 0, 1, 1};
    for (int heap = 0; heap < quarrels.length; heap++) due("quarrels " + heap, x.quarrels(heap), quarrels[heap]);
    due("open 1", x.open(1), 192);
    due("open 16", x.open(16), 0);
    due("open 14", x.open(14), 256);
    due("open 3", x.open(3), 192);
    Texts.question(x, "w is b");
    due("follows 5", x.follows(5), 1);
    due("follows 4", x.follows(4), 0);
    due("denied 8", x.denied(8), 1);
    due("denied 4", x.denied(4), 0);
    due("follows 16", x.follows(16), 1);
    due("denied 16", x.denied(16), 1);
    Texts.question(x, "there are a or not a");
    due("there is a thing", x.follows(0), 1);
    Texts.question(x, "there are b");
    due("by its name", x.follows(5), 1);
    due("idle 12", x.idle(12), 0);
    due("idle 14", x.idle(14), 2);
    int[] wrong = {-1, 32, LOW, HIGH, 1 << 12, 33};
    for (int heap : wrong) {
      due("quarrels", x.quarrels(heap), -1);
      due("follows", x.follows(heap), -1);
      due("denied", x.denied(heap), -1);
      due("open", x.open(heap), -1);
      due("idle", x.idle(heap), -1);
      due("hint", x.hint(heap), -1);
      due("between", x.between(heap, 0, 1), -1);
      due("says", x.says(heap, 0, 0, 1), -1);
      due("all", x.all(heap, 0), -1);
      due("world", x.world(heap, -1), -1);
      due("name", x.name(heap, 0, 0), -1);
    }
    MoodSlips y = with("all a who are not a are b");
    due("untold", y.quarrels(1), 0);
    y.existence(1);
    due("a subject that can't be", y.quarrels(1), 1);
  }

  /** Promises 18 to 20. */
  private static void fewest() {
    MoodSlips x = with("all a are b", "all b are c", "all a are c", "all a are c who are b", "no a are c", "there are a");
    due("no question", x.least(0), -1);
    due("no question", x.least(1), -1);
    Texts.question(x, "all a are c");
    due("least 0", x.least(0), 1);
    due("least 1", x.least(1), 2);
    due("least 2", x.least(2), 4);
    due("least 3", x.least(3), -1);
    due("least -1", x.least(-1), -1);
    Texts.question(x, "some c are b");
    due("least 0", x.least(0), 2);
    due("least 1", x.least(1), 1);
    due("least 2", x.least(2), 40);
    Texts.question(x, "there are a or not a");
    due("of nothing 0", x.least(0), 0);
    due("of nothing 1", x.least(1), 1);
    due("of nothing 2", x.least(2), 0);
    Texts.question(x, "there are h");
    due("never 0", x.least(0), -1);
    due("never 1", x.least(1), 0);
    due("never 2", x.least(2), -1);
    int[] quarrels = {51, 52, 56};
    due("quarrel -1", x.quarrel(-1), 3);
    for (int i = 0; i < 3; i++) due("quarrel " + i, x.quarrel(i), quarrels[i]);
    due("quarrel 3", x.quarrel(3), -1);
    due("quarrel -2", x.quarrel(-2), -1);
    due("quarrel high", x.quarrel(HIGH), -1);
    due("calm 0", x.calm(0), 1);
    due("calm 1", x.calm(1), 2);
    due("calm 2", x.calm(2), 16);
    due("calm 3", x.calm(3), -1);
    MoodSlips y = new MoodSlips();
    for (int i = 0; i < 12; i++) Texts.slip(y, i < 6 ? "there are a" : "there are no a");
    due("many quarrels", y.quarrel(-1), 36);
    due("first", y.quarrel(0), 65);
    due("last", y.quarrel(35), 2080);
    due("six out", y.calm(0), 6);
    due("two ways", y.calm(1), 2);
    due("lowest", y.calm(2), 63);
    Texts.question(y, "there are a");
    due("least of twelve", y.least(1), 6);
    MoodSlips z = new MoodSlips();
    for (int i = 0; i < 12; i++) Texts.slip(z, "there are a who are not a");
    due("each with itself", z.quarrel(-1), 12);
    due("the last of itself", z.quarrel(11), 2048);
    due("all twelve out", z.calm(0), 12);
    due("in one way", z.calm(1), 1);
    due("that is all", z.calm(2), 4095);
    due("full heap", y.quarrels(4095), 1);
    due("beyond", y.quarrels(4096), -1);
  }

  /** Promises 21 to 25. */
  private static void simple() {
    MoodSlips x = with("all a are b", "all c are d");
    due("hint without", x.hint(3), -1);
    Texts.question(x, "all a are d");
    due("hint", x.hint(3), 2);
    due("hint of nothing", x.hint(0), -1);
    Texts.question(x, "only d are a");
    due("hint of only", x.hint(3), 2);
    Texts.question(x, "some a are b");
    due("its own is passed over", x.hint(0), 136);
    due("by the first", x.hint(1), 130);
    due("between", x.between(1, 0, 1), 1);
    due("between turned", x.between(1, 1, 0), 16);
    due("between same", x.between(1, 1, 1), -1);
    due("between 8", x.between(1, 8, 1), -1);
    due("between -1", x.between(1, 1, -1), -1);
    x.existence(1);
    due("between told", x.between(1, 0, 1), 5);
    due("hint when it suffices", x.hint(1), 1);
    due("square other", x.square(0, 1), 0);
    due("square same", x.square(1, 1), 1);
    due("square 2", x.square(0, 2), -1);
    due("square -1", x.square(-1, 0), -1);
    due("says", x.says(3, 2, 3, 2), 1);
    due("says mood 4", x.says(3, 4, 3, 2), -1);
    due("says mood -1", x.says(3, -1, 3, 2), -1);
    due("says same", x.says(3, 0, 3, 3), -1);
    due("says 8", x.says(3, 0, 3, 8), -1);
    due("says -1", x.says(3, 0, -1, 3), -1);
    due("all A", x.all(3, 0), 2);
    due("all E", x.all(3, 1), 0);
    due("all I", x.all(3, 2), 4);
    due("all O", x.all(3, 3), 0);
    due("all 4", x.all(3, 4), -1);
    due("all -1", x.all(3, -1), -1);
    MoodSlips y = with("all a are b", "some a are not b", "no a are b", "some a are b", "there are a", "there are b who are a",
      "there are a or b", "there are not a", "there are no a or not a");
    int[][] untold = {{0, 1, 6}, {2, 3, 6}, {0, 2, 0}, {1, 3, 0}, {3, 4, 2}, {4, 3, 3}, {3, 5, 1}, {6, 7, 5}, {8, 0, 4}, {8, 8, 1}};
    for (int[] u : untold) due("square " + u[0] + " " + u[1], y.square(u[0], u[1]), u[2]);
    due("all of a quarrel", y.all(256, 3), 56);
    due("between of a quarrel", y.between(256, 3, 4), 63);
    y.existence(1);
    int[][] told = {{0, 1, 4}, {0, 2, 4}, {0, 3, 2}, {3, 0, 3}, {1, 3, 0}, {2, 3, 4}};
    for (int[] t : told) due("square told " + t[0] + " " + t[1], y.square(t[0], t[1]), t[2]);
  }

  /** Promises 26 and 27. */
  private static void worlds() {
    MoodSlips x = with("there are a", "there are b who are not a", "there are c who are not a", "x is not b or c", "no a are d");
    due("no question", x.world(0, -1), -1);
    Texts.question(x, "all h are a");
    due("of nothing", x.world(0, -1), 1);
    due("first", x.world(0, 0), 128);
    due("over", x.world(0, 1), -1);
    due("below", x.world(0, -2), -1);
    int[] row = {1, 134};
    due("how many", x.world(31, -1), 2);
    for (int i = 0; i < 2; i++) due("row " + i, x.world(31, i), row[i]);
    due("row over", x.world(31, 2), -1);
    x.existence(1);
    due("no subject", x.world(0, 0), 0);
    int[] told = {1, 6};
    for (int i = 0; i < 2; i++) due("told row " + i, x.world(31, i), told[i]);
    Texts.question(x, "there are a");
    due("none", x.world(1, -1), -1);
    due("none's first", x.world(1, 0), -1);
    due("x 0", x.name(8, 1, 0), 64);
    due("x 1", x.name(8, 1, 1), 0);
    due("w", x.name(8, 0, 0), 256);
    due("x with a", x.name(24, 1, 0), 48);
    due("name 4", x.name(8, 4, 0), -1);
    due("name -1", x.name(8, -1, 0), -1);
    due("name what 2", x.name(8, 1, 2), -1);
    due("name what -1", x.name(8, 1, -1), -1);
    MoodSlips y = with("w is h", "w is not h", "x is g who are h");
    due("quarrel", y.name(3, 2, 0), -1);
    due("quarrel's lowest", y.name(3, 2, 1), -1);
    due("x", y.name(4, 1, 1), 192);
    String[] apart = {"a", "b", "c", "d", "e", "f", "g", "h"};
    MoodSlips z = new MoodSlips();
    for (int i = 0; i < 8; i++) {
      StringBuilder only = new StringBuilder("there are " + apart[i]);
      for (int j = 0; j < 8; j++) if (j != i) only.append(" who are not ").append(apart[j]);
      due("apart " + i, Texts.slip(z, only.toString()), i);
    }
    Texts.slip(z, "w is not a or b or c or d or e or f or g or h");
    Texts.slip(z, "x is a who are b");
    Texts.slip(z, "y is c who are d who are not a");
    Texts.slip(z, "z is e who are f who are not (a or c)");
    Texts.question(z, "no a are a who are g who are b who are d");
    int[] many = {0, 1, 2, 4, 8, 12, 16, 32, 48, 64, 75, 128};
    due("many", z.world(4095, -1), many.length);
    for (int i = 0; i < many.length; i++) due("many " + i, z.world(4095, i), many[i]);
  }

  /** Promises 28 to 32. */
  private static void moods() {
    MoodSlips x = with("all b are c", "all a are b", "no c are d", "some b are a", "x is a", "none but c are b", "all a are c");
    due("figure", x.pair(0, 1, 0), 1);
    due("middle", x.pair(0, 1, 1), 1);
    due("mood", x.pair(0, 1, 2), 0);
    due("no middle", x.pair(1, 3, 0), -1);
    due("nothing shared", x.pair(1, 2, 0), -1);
    due("not simple", x.pair(0, 4, 0), -1);
    due("no slip", x.pair(0, 7, 0), -1);
    due("slip -1", x.pair(-1, 0, 0), -1);
    due("by none but", x.pair(5, 1, 2), 0);
    due("nothing concluded", x.pair(6, 0, 2), -1);
    due("its subject all the same", x.pair(6, 0, 3), 1);
    due("its predicate all the same", x.pair(6, 0, 4), 0);
    due("wrong", x.wrong(6, 0, 0), 2);
    due("wrong 5", x.wrong(0, 1, 5), -1);
    due("wrong no middle", x.wrong(1, 3, 0), -1);
    due("derived 0", x.derived(0, 0, 2), 0);
    due("derived E", x.derived(1, 0, 3), 1);
    due("by 0", x.by(1, 0, 3, 0), 64 + 19);
    due("by 1", x.by(1, 0, 3, 1), 2);
    due("derived never", x.derived(0, 3, 0), -1);
    due("derived wrong mood", x.derived(4, 0, 1), -1);
    due("derived low mood", x.derived(-1, 0, 1), -1);
    due("derived same", x.derived(0, 1, 1), -1);
    due("derived 8", x.derived(0, 8, 1), -1);
    due("derived -1", x.derived(0, 1, -1), -1);
    due("by given", x.by(0, 0, 2, 0), -1);
    due("by 2", x.by(1, 0, 3, 2), -1);
    due("by -1", x.by(1, 0, 3, -1), -1);
    due("by mood", x.by(4, 0, 3, 0), -1);
    due("by same", x.by(1, 3, 3, 0), -1);
    due("by 8", x.by(1, 3, 8, 0), -1);
    due("derive 2", x.derive(2), -1);
    due("derive -1", x.derive(-1), -1);
    MoodSlips y = with("all a are b", "all b are c", "all c are d", "all d are e", "all e are f");
    due("chain", y.derive(0), 15);
    due("chain's rounds", y.derive(1), 3);
    due("round 3", y.derived(0, 0, 5), 3);
    due("round 2", y.derived(0, 0, 3), 2);
    due("its major", y.by(0, 0, 3, 0), 11);
    due("its minor", y.by(0, 0, 3, 1), 1);
    Texts.slip(y, "all f are a");
    due("ring", y.derive(0), 30);
    MoodSlips z = with("all h are a", "x is h", "there are h", "all h are h", "all g are h or a", "no h are not a");
    for (int i = 1; i < 6; i++)
      for (int what = 0; what < 5; what++) {
        due("not simple " + i, z.pair(0, i, what), -1);
        due("not simple major " + i, z.pair(i, 0, what), -1);
        due("wrong of not simple " + i, z.wrong(0, i, 1), -1);
        due("wrong of not simple major " + i, z.wrong(i, 0, 1), -1);
      }
    due("one is derived", z.derive(0), 1);
  }

  /** Promises 33 to 35. */
  private static void dispute() {
    MoodSlips x = new MoodSlips();
    due("posit without", x.posit(), -3);
    due("propose without", x.propose(), -3);
    Texts.question(x, "there are a who are not a");
    due("posit what can't be", x.posit(), -3);
    Texts.question(x, "there are no a or not a");
    due("posit nothing at all", x.posit(), -3);
    Texts.question(x, "all a who are not a are b");
    due("propose first", x.propose(), -3);
    x.existence(1);
    due("existence is left aside", x.posit(), 0);
    Texts.question(x, "all a are b");
    due("beside the point", x.propose(), 0);
    due("bound", x.bound(-1), 1);
    due("posit", x.posit(), 0);
    Texts.question(x, "some a are b");
    due("not by existence", x.propose(), 0);
    Texts.question(x, "some a are not b");
    due("denied", x.propose(), 2);
    due("bound 1", x.bound(1), 0);
    Texts.question(x, "x is not a or b");
    due("granted", x.propose(), 0);
    Texts.question(x, "x is a who are not b");
    due("denied of a name", x.propose(), 2);
    due("bound 2", x.bound(2), 0);
    Texts.question(x, "x is not a or b");
    Texts.question(x, "x is (not a) or b");
    for (int i = 3; i < 12; i++) due("granted " + i, x.propose(), 1);
    due("twelve", x.bound(-1), 12);
    due("no room", x.propose(), -5);
    due("status", x.status(), -5);
    due("count 8", x.count(8), 1);
    due("bound 11", x.bound(11), 1);
    due("bound 12", x.bound(12), -1);
    due("bound -2", x.bound(-2), -1);
    Texts.question(x, "there are a who are not a");
    due("posit refused", x.posit(), -3);
    due("others stay", x.bound(-1), 12);
    Texts.question(x, "there are a");
    due("posit anew", x.posit(), 0);
    due("others forgotten", x.bound(-1), 1);
    due("count 2", x.count(2), 1);
    due("refused -3", x.count(7), 6);
  }

  /** Promises 36 and 37. */
  private static void riddles() {
    MoodSlips x = new MoodSlips();
    due("riddle", x.riddle(0, 3), 3);
    due("seed -1", x.riddle(-1, 3), -1);
    due("status", x.status(), -1);
    due("seed over", x.riddle(1000001, 3), -1);
    due("n 13", x.riddle(0, 13), -1);
    due("n -1", x.riddle(0, -1), -1);
    due("low", x.riddle(LOW, LOW), -1);
    due("refused", x.count(5), 5);
    due("the latest stays", x.drawn(2, 2), 2);
    due("drawn 3", x.drawn(3, 0), -1);
    due("drawn -2", x.drawn(-2, 0), -1);
    due("what 3", x.drawn(0, 3), -1);
    due("what -1", x.drawn(0, -1), -1);
    due("none 2", x.drawn(-1, 2), -1);
    due("none -1", x.drawn(-1, -1), -1);
    due("n 0", x.riddle(1000000, 0), 0);
    due("nothing drawn", x.drawn(0, 0), -1);
    due("nothing follows", x.drawn(-1, 0), 0);
    due("no slips by it", x.count(0), 0);
  }

  /** Promise 37 ahead of any riddle: there is none to ask about, which a riddle of nothing is not. */
  private static void noRiddle() {
    MoodSlips x = with("all a are b", "no b are c");
    int[] what = {0, 1, 2, -1, 3, LOW, HIGH};
    for (int w : what) {
      due("no riddle, all, " + w, x.drawn(-1, w), -1);
      due("no riddle, first, " + w, x.drawn(0, w), -1);
    }
    due("seed that can't be", x.riddle(-1, 3), -1);
    due("n that can't be", x.riddle(0, 13), -1);
    due("a refused one is none, A", x.drawn(-1, 0), -1);
    due("a refused one is none, E", x.drawn(-1, 1), -1);
    due("not refused by drawn", x.count(5), 2);
    x.image(0);
    due("n 0", x.riddle(5, 0), 0);
    due("a riddle of nothing, A", x.drawn(-1, 0), 0);
    due("a riddle of nothing, E", x.drawn(-1, 1), 0);
    due("a riddle of nothing, first", x.drawn(0, 0), -1);
    due("back", x.back(0), 0);
    due("images do not keep it, A", x.drawn(-1, 0), 0);
    due("images do not keep it, E", x.drawn(-1, 1), 0);
    MoodSlips y = new MoodSlips();
    due("each object has its own", y.drawn(-1, 1), -1);
    due("refused behind one", x.riddle(LOW, 0), -1);
    due("the latest stays", x.drawn(-1, 0), 0);
  }

  /** Promises 38 and 39. */
  private static void images() {
    MoodSlips x = with("all a are b", "no b are c");
    Texts.question(x, "no a are c");
    x.posit();
    due("image 2", x.image(2), -1);
    due("image -1", x.image(-1), -1);
    due("back 2", x.back(2), -1);
    due("back -1", x.back(-1), -1);
    due("back 1", x.back(1), -2);
    due("status", x.status(), -2);
    due("image 0", x.image(0), 0);
    due("status 0", x.status(), 0);
    due("least", x.least(2), 3);
    due("derive", x.derive(0), 4);
    x.existence(1);
    Texts.slip(x, "all b are c");
    x.write(0);
    Texts.question(x, "w is a");
    x.posit();
    x.propose();
    x.riddle(7, 5);
    int kept = x.drawn(0, 0);
    due("quarrels", x.quarrel(-1), 1);
    due("image 1", x.image(1), 0);
    Texts.slip(x, "nothing");
    Texts.feed(x, "some");
    due("back 0", x.back(0), 0);
    due("slips", x.count(0), 2);
    check.due("slip 0", Texts.written(x, 0), "all a are b");
    check.due("question", Texts.written(x, -1), "no a are c");
    due("existence", x.count(3), 0);
    due("bound", x.count(2), 1);
    due("tape stays", x.count(4), 4);
    due("fault stays", x.fault(), 0);
    due("riddle stays", x.drawn(0, 0), kept);
    due("refusals stay", x.count(9), 1);
    due("refusals of -1", x.count(5), 4);
    due("least again", x.least(2), 3);
    due("quarrel again", x.quarrel(-1), 0);
    due("derive again", x.derive(0), 4);
    due("back 1", x.back(1), 0);
    due("slips of 1", x.count(0), 3);
    due("bound of 1", x.count(2), 2);
    due("existence of 1", x.count(3), 1);
    due("quarrels of 1", x.quarrel(-1), 1);
    due("back 0 again", x.back(0), 0);
    due("image stays", x.count(0), 2);
    MoodSlips y = new MoodSlips();
    y.image(0);
    Texts.question(y, "w is a");
    y.posit();
    y.back(0);
    due("no question again", y.count(1), 0);
    due("nothing posited again", y.propose(), -3);
  }

  /** Promises 40 and 41. */
  private static void counts() {
    MoodSlips x = with("all a are b");
    int[] wrong = {-1, 10, LOW, HIGH, 15};
    for (int what : wrong) due("count " + what, x.count(what), -1);
    x.take(5);
    due("status -2", x.status(), -2);
    x.of(9, 9);
    x.quarrels(-1);
    x.feed(0, 0, 0, 0, 0);
    x.end(-1);
    x.fault();
    x.count(0);
    due("status stays", x.status(), -2);
    int[] refused = {0, 1, 0, 0, 0};
    for (int i = 0; i < 5; i++) due("refused " + i, x.count(5 + i), refused[i]);
    x.existence(0);
    due("status 0", x.status(), 0);
    x.end(0);
    due("slip refused", x.slip(), -6);
    due("status -6", x.status(), -6);
    x.riddle(1, 1);
    due("status of riddle", x.status(), 0);
    x.posit();
    due("status of posit", x.status(), -3);
  }

  public static void main(String[] args) {
    newObject();
    tape();
    reading();
    writing();
    sentences();
    heaps();
    fewest();
    simple();
    worlds();
    moods();
    dispute();
    riddles();
    noRiddle();
    images();
    counts();
    check.due("NONE", MoodSlips.NONE, -1L);
    check.finish();
  }
}
