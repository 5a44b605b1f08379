/** Promises 7 to 12 at their edges, a sentence of the document each: slips, the question, existence, what is written. */
public final class SlipEdgesTest {
  private static final Check check = new Check();
  private static final int LOW = Integer.MIN_VALUE;
  private static final int HIGH = Integer.MAX_VALUE;

  private static void due(String call, int got, int want) {
    check.due(call, (long) got, (long) want);
  }

  /** A question that is read from a text, and how it is due to be written. */
  private static void written(String text, String due) {
    MoodSlips x = new MoodSlips();
    due("question '" + text + "'", Texts.question(x, text), 0);
    check.due("written '" + text + "'", Texts.written(x, -1), due);
    if (due.length() > 400) return;
    due("read again '" + due + "'", Texts.question(x, due), 0);
    check.due("written again '" + due + "'", Texts.written(x, -1), due);
  }

  /** It is written just as it is. */
  private static void asIs(String... texts) {
    for (String text : texts) written(text, text);
  }

  // ---- promises 7 to 12: the last slip, and one behind it ----

  private static void twelve() {
    MoodSlips x = new MoodSlips();
    for (int i = 0; i < 12; i++) Texts.slip(x, i < 11 ? "w is a" : "z is h");
    check.sentence(8, "SLIPS 0 .. 11 (12 at most)");
    due("take(12)", x.take(12), -2);
    due("no QUESTION by it", x.count(1), 0);
    due("take(11)", x.take(11), 0);
    check.sentence(7, "SLIPS 0 .. 11 (12 at most)");
    due("write(12)", x.write(12), -2);
    due("write(0)", x.write(0), 0);
    due("write(11)", x.write(11), 0);
    check.sentence(10, "SLIPS 0 .. 11 (12 at most)");
    for (int what = 0; what < 6; what++) due("of(12, " + what + ")", x.of(12, what), -1);
    due("of(11, 4)", x.of(11, 4), 3);
    check.sentence(11, "SLIPS 0 .. 11 (12 at most)");
    due("has(12, 255)", x.has(12, 255), -1);
    due("has(11, 255)", x.has(11, 255), 1);
    check.sentence(12, "SLIPS 0 .. 11 (12 at most)");
    due("letter(12, NONE)", x.letter(12, -1), -1);
    due("letter(12, 0)", x.letter(12, 0), -1);
    due("letter(11, NONE)", x.letter(11, -1), 6);
    due("letter(11, 0)", x.letter(11, 0), 'z');
  }

  // ---- promises 7 and 8 ----

  private static void writes() {
    check.sentence(7, "A SLIP becomes what the QUESTION is: 0");
    MoodSlips x = Texts.asking("no a are b", "all a are b", "w is a");
    due("write(0)", x.write(0), 0);
    check.due("slip 0", Texts.written(x, 0), "no a are b");
    check.due("slip 1 stays", Texts.written(x, 1), "w is a");
    check.due("the QUESTION stays", Texts.written(x, -1), "no a are b");
    due("count(0)", x.count(0), 2);
    Texts.ask(x, "z is h");
    check.due("slip 0 is what the QUESTION was", Texts.written(x, 0), "no a are b");
    due("the last slip", x.write(1), 0);
    check.due("slip 1", Texts.written(x, 1), "z is h");
    due("again, by what it is", x.write(1), 0);
    check.due("slip 1 again", Texts.written(x, 1), "z is h");
    due("what is found follows it", x.name(2, 3, 1), 128);
  }

  private static void writesNoSlip() {
    check.sentence(7, "-2 there is no such SLIP");
    MoodSlips x = Texts.asking("no a are b", "all a are b", "w is a");
    int[] none = {2, 3, 11, 12, -1, -2, LOW, HIGH};
    for (int slip : none) {
      due("write(" + slip + ")", x.write(slip), -2);
      due("status()", x.status(), -2);
    }
    due("count(6)", x.count(6), none.length);
    due("count(5)", x.count(5), 0);
    due("count(0)", x.count(0), 2);
    check.due("slip 0 stays", Texts.written(x, 0), "all a are b");
    check.due("slip 1 stays", Texts.written(x, 1), "w is a");
  }

  private static void writesNoQuestion() {
    check.sentence(7, "-3 there is no QUESTION");
    MoodSlips x = Texts.with("all a are b");
    due("write(0)", x.write(0), -3);
    due("status()", x.status(), -3);
    due("count(7)", x.count(7), 1);
    check.due("slip 0 stays", Texts.written(x, 0), "all a are b");
  }

  private static void writesFirstOfThese() {
    check.sentence(7, "The first of these in that order (-2 ahead of -3)");
    MoodSlips x = new MoodSlips();
    due("no SLIP, no QUESTION", x.write(0), -2);
    due("NONE, no QUESTION", x.write(-1), -2);
    Texts.slip(x, "w is a");
    due("no such SLIP, no QUESTION", x.write(1), -2);
    due("count(7)", x.count(7), 0);
    due("count(6)", x.count(6), 3);
  }

  private static void takes() {
    check.sentence(8, "A SLIP becomes the QUESTION: 0");
    MoodSlips x = Texts.with("all a are b", "w is a");
    due("take(1), no QUESTION before", x.take(1), 0);
    check.due("the QUESTION", Texts.written(x, -1), "w is a");
    due("take(0)", x.take(0), 0);
    check.due("the QUESTION", Texts.written(x, -1), "all a are b");
    check.due("slip 0 stays", Texts.written(x, 0), "all a are b");
    due("least(2) is that of the new QUESTION", x.least(2), 1);
    due("take(1)", x.take(1), 0);
    due("least(2) is that of the new QUESTION", x.least(2), 2);
    MoodSlips y = new MoodSlips();
    for (int i = 0; i < 12; i++) Texts.slip(y, i < 11 ? "w is a" : "z is h");
    due("take(11)", y.take(11), 0);
    check.due("the QUESTION", Texts.written(y, -1), "z is h");
  }

  private static void takesNoSlip() {
    check.sentence(8, "-2 (there is no such SLIP)");
    MoodSlips x = new MoodSlips();
    due("take(0), no SLIP", x.take(0), -2);
    due("no QUESTION by it", x.count(1), 0);
    x = Texts.asking("no a are b", "all a are b", "w is a");
    int[] none = {2, 3, 11, 12, -1, -2, LOW, HIGH};
    for (int slip : none) {
      due("take(" + slip + ")", x.take(slip), -2);
      due("status()", x.status(), -2);
      check.due("the QUESTION stays", Texts.written(x, -1), "no a are b");
    }
    due("count(6)", x.count(6), none.length);
    due("count(5)", x.count(5), 0);
  }

  // ---- promise 9 ----

  private static void notAtFirst() {
    check.sentence(9, "EXISTENCE (.. not at first: 0)");
    MoodSlips x = Texts.asking("some a are b", "all a are b");
    due("count(3)", x.count(3), 0);
    due("follows(1)", x.follows(1), 0);
    due("existence(0)", x.existence(0), 0);
    due("existence(1)", new MoodSlips().existence(1), 0);
  }

  private static void whatItWas() {
    check.sentence(9, "EXISTENCE is told (1) or not (0): what it was (told again as it is, too)");
    MoodSlips x = Texts.asking("some a are b", "all a are b");
    int[] told = {0, 1, 1, 1, 0, 0, 1, 0};
    int before = 0;
    for (int now : told) {
      due("existence(" + now + ")", x.existence(now), before);
      due("status()", x.status(), 0);
      due("count(3)", x.count(3), now);
      due("follows(1)", x.follows(1), now);
      due("least(0)", x.least(0), now == 1 ? 1 : -1);
      before = now;
    }
  }

  private static void neither() {
    check.sentence(9, "-1 (a number that can't be)");
    for (int before = 0; before < 2; before++) {
      MoodSlips x = Texts.asking("some a are b", "all a are b");
      x.existence(before);
      int[] wrong = {2, -1, 3, 256, LOW, HIGH};
      for (int told : wrong) {
        due("existence(" + told + ")", x.existence(told), -1);
        due("status()", x.status(), -1);
        due("count(3)", x.count(3), before);
        due("follows(1)", x.follows(1), before);
      }
      due("count(5)", x.count(5), wrong.length);
    }
  }

  private static void subjects() {
    check.sentence(9, "all, no, only, none but say besides that there is a thing of the subject (A; of only, none but: B)");
    MoodSlips x = Texts.with("all a are b", "no a are b", "only a are b", "none but a are b", "some a are b",
      "some a are not b", "there are no a", "there are a", "w is a");
    x.existence(1);
    int[] ofA = {1, 1, 0, 0, 1, 1, 0, 1, 1};
    int[] ofB = {1, 0, 1, 1, 1, 0, 0, 0, 0};
    for (int i = 0; i < ofA.length; i++) {
      Texts.ask(x, "there are a");
      due("there are a by slip " + i, x.follows(1 << i), i == 2 || i == 3 ? 1 : ofA[i]);
      Texts.ask(x, "there are b");
      due("there are b by slip " + i, x.follows(1 << i), ofB[i]);
    }
    x.existence(0);
    for (int i = 0; i < 4; i++) {
      Texts.ask(x, "there are a or b");
      due("untold: slip " + i, x.follows(1 << i), 0);
    }
    x.existence(1);
    Texts.ask(x, "there are no a");
    due("there are no a: nothing besides", x.denied(0), 0);
    due("there are no a: it can be", x.quarrels(64), 0);
    Texts.ask(x, "all a who are not a are b");
    due("of a subject that can't be", x.denied(0), 1);
  }

  // ---- promise 10 ----

  private static void whatIsSaid() {
    check.sentence(10, "0 what it says; 1 MOOD .. , 2 subject, 3 predicate .. , 4 its NAME .. , 5 how many REGIONS its SET has");
    String[] texts = {"all a are b", "no h are g", "some a are h", "some h are not a", "only a are h",
      "none but (h) are ((a))", "there are a", "there are no h", "w is a", "z is not h", "x is h", "y is not a"};
    int[][] dues = {{0, 0, 0, 1, -1, 64}, {0, 1, 7, 6, -1, 64}, {1, 2, 0, 7, -1, 64}, {1, 3, 7, 0, -1, 64},
      {0, 0, 7, 0, -1, 64}, {0, 0, 0, 7, -1, 64}, {1, -1, -1, -1, -1, 128}, {0, -1, -1, -1, -1, 128},
      {2, -1, -1, -1, 0, 128}, {2, -1, -1, -1, 3, 128}, {2, -1, -1, -1, 1, 128}, {2, -1, -1, -1, 2, 128}};
    MoodSlips x = Texts.with(texts);
    for (int slip = 0; slip < texts.length; slip++) {
      x.take(slip);
      for (int what = 0; what < 6; what++) {
        due("of(" + slip + ", " + what + ")", x.of(slip, what), dues[slip][what]);
        due("of(NONE, " + what + ") of " + texts[slip], x.of(-1, what), dues[slip][what]);
      }
    }
    x.existence(1);
    due("no other SET, if EXISTENCE is told", x.of(0, 5), 64);
    due("it says the same", x.of(0, 0), 0);
  }

  private static void notSimple() {
    check.sentence(10, "NONE: not SIMPLE (two KINDS that are alone (in brackets or not) and are not the same one)");
    String[] texts = {"all a are a", "no h are (h)", "some a are (not b)", "some a are not not b", "all not a are b",
      "all not not a are b", "only a or b are c", "none but a who are b are c", "all a are a or a", "no a are b or c",
      "there are no a who are b", "some (a or b) are not a"};
    MoodSlips x = Texts.with(texts);
    for (int slip = 0; slip < texts.length; slip++)
      for (int what = 1; what <= 3; what++) due("of " + texts[slip] + " " + what, x.of(slip, what), -1);
    MoodSlips y = Texts.with("all ((a)) are (((((((h)))))))", "some (b) are not (c)", "only((a))are(b)");
    int[][] dues = {{0, 0, 7}, {3, 1, 2}, {0, 1, 0}};
    for (int slip = 0; slip < 3; slip++)
      for (int what = 1; what <= 3; what++) due("of(" + slip + ", " + what + ")", y.of(slip, what), dues[slip][what - 1]);
  }

  private static void sizes() {
    check.sentence(10, "how many REGIONS its SET has (none, one, all)");
    MoodSlips x = Texts.with("all a are a", "there are no a who are not a", "no a or not a are b or not b",
      "there are a who are b who are c who are d who are e who are f who are g who are h",
      "w is not (a or b or c or d or e or f or g or h)", "z is a or not a", "no a are a");
    int[] dues = {0, 0, 256, 1, 1, 256, 128};
    for (int slip = 0; slip < dues.length; slip++) due("of(" + slip + ", 5)", x.of(slip, 5), dues[slip]);
  }

  private static void ofNothing() {
    check.sentence(10, "NONE (no such SLIP, no QUESTION, nothing of that number)");
    MoodSlips x = Texts.with("all a are b", "w is a");
    int[] none = {2, 11, 12, -2, LOW, HIGH, -1};
    for (int slip : none)
      for (int what = 0; what < 6; what++) due("of(" + slip + ", " + what + ")", x.of(slip, what), -1);
    x.take(1);
    due("of(NONE, 0) with a QUESTION", x.of(-1, 0), 2);
    int[] wrong = {-1, 6, 7, LOW, HIGH};
    for (int what : wrong)
      for (int slip = -1; slip < 2; slip++) due("of(" + slip + ", " + what + ")", x.of(slip, what), -1);
    due("status()", x.status(), 0);
  }

  // ---- promise 11 ----

  private static void regions() {
    check.sentence(11, "Whether a REGION is in the SET (REGIONS 0 .. 255; KINDS a .. h: bits)");
    for (int kind = 0; kind < 8; kind++) {
      MoodSlips x = Texts.asking("there are not " + (char) ('a' + kind), "w is " + (char) ('a' + kind));
      for (int region = 0; region < 256; region++) {
        due("has(0, " + region + ") of kind " + kind, x.has(0, region), region >> kind & 1);
        due("has(NONE, " + region + ") of not kind " + kind, x.has(-1, region), 1 - (region >> kind & 1));
      }
    }
  }

  private static void noRegion() {
    check.sentence(11, "NONE (no such REGION)");
    MoodSlips x = Texts.asking("there are a or not a", "w is a or not a");
    int[] wrong = {-1, 256, 257, -256, 512, LOW, HIGH};
    for (int region : wrong) {
      due("has(0, " + region + ")", x.has(0, region), -1);
      due("has(NONE, " + region + ")", x.has(-1, region), -1);
    }
    due("has(0, 0)", x.has(0, 0), 1);
    due("has(0, 255)", x.has(0, 255), 1);
  }

  private static void hasNothing() {
    check.sentence(11, "NONE (no such SLIP, no QUESTION)");
    MoodSlips x = Texts.with("there are a or not a");
    int[] none = {-1, 1, 11, 12, -2, LOW, HIGH};
    for (int slip : none) {
      due("has(" + slip + ", 0)", x.has(slip, 0), -1);
      due("has(" + slip + ", 255)", x.has(slip, 255), -1);
    }
    Texts.ask(x, "w is h");
    due("has(NONE, 255) with a QUESTION", x.has(-1, 255), 1);
    due("has(NONE, 0) with a QUESTION", x.has(-1, 0), 0);
  }

  // ---- promise 12 ----

  private static void signs() {
    check.sentence(12, "How many signs .. WRITTEN (i NONE); the i-th of them");
    MoodSlips x = Texts.asking("z is h", "all a are b");
    String text = "all a are b";
    due("letter(0, NONE)", x.letter(0, -1), 11);
    for (int i = 0; i < 11; i++) due("letter(0, " + i + ")", x.letter(0, i), text.charAt(i));
    due("letter(NONE, NONE)", x.letter(-1, -1), 6);
    due("letter(NONE, 0)", x.letter(-1, 0), 'z');
    due("letter(NONE, 5)", x.letter(-1, 5), 'h');
  }

  private static void noSign() {
    check.sentence(12, "NONE (no such sign, SLIP, no QUESTION)");
    MoodSlips x = Texts.with("all a are b");
    int[] wrong = {11, 12, -2, 400, LOW, HIGH};
    for (int i : wrong) due("letter(0, " + i + ")", x.letter(0, i), -1);
    int[] none = {-1, 1, 11, 12, -2, LOW, HIGH};
    for (int slip : none) {
      due("letter(" + slip + ", NONE)", x.letter(slip, -1), -1);
      due("letter(" + slip + ", 0)", x.letter(slip, 0), -1);
    }
    Texts.ask(x, "w is a");
    due("letter(NONE, NONE) with a QUESTION", x.letter(-1, -1), 6);
    due("letter(NONE, 6)", x.letter(-1, 6), -1);
  }

  private static void blanks() {
    check.sentence(12, "one blank between two of them, none behind ( and ahead of )");
    written("   all    a   are  b  ", "all a are b");
    written("none   but a are   b", "none but a are b");
    written("no(  a  or  b  )who are c are d", "no (a or b) who are c are d");
    written("w is not(a)", "w is not a");
    written("some a are(not b)", "some a are (not b)");
    written("w is(not(a or b)or c)", "w is (not (a or b) or c)");
    written("all not(not(a or b)who are c)are d", "all not (not (a or b) who are c) are d");
  }

  private static void orThatIsPlain() {
    check.sentence(12, "brackets stand where they must: around an \"or\" that is a PLAIN");
    asIs("all not (a or b) are c", "all (a or b) who are c are d", "all a who are (b or c) are d",
      "there are (a or b) who are (c or d) who are (e or f)", "w is not not (a or b) or c", "w is not not (a or b)",
      "there are not not (a or b or c)");
  }

  private static void orBehindOr() {
    check.sentence(12, "brackets .. around an \"or\" .. behind an \"or\"");
    asIs("all a or (b or c) are d", "all a or b or (c or d) are e", "there are a or (b or (c or d))",
      "w is a or (b or c) or d");
    written("all (a or b) or c are d", "all a or b or c are d");
    written("all ((a or b) or c) or d are e", "all a or b or c or d are e");
    written("all (a or (b or c)) or d are e", "all a or (b or c) or d are e");
  }

  private static void whoBehindNot() {
    check.sentence(12, "brackets .. around a \"who are\" that is behind \"not\"");
    asIs("all not (a who are b) are c", "there are a or not (b who are c)", "w is not not (a who are b)",
      "there are a who are not (b who are c)");
    written("all (not a) who are b are c", "all not a who are b are c");
  }

  private static void whoBehindWho() {
    check.sentence(12, "brackets .. around a \"who are\" that is behind .. a \"who are\"");
    asIs("all a who are (b who are c) are d", "there are a who are b who are (c who are d)",
      "there are a who are (b who are (c who are d))");
    written("all (a who are b) who are c are d", "all a who are b who are c are d");
    written("all (a who are (b who are c)) who are d are e", "all a who are (b who are c) who are d are e");
  }

  private static void wholeTerms() {
    check.sentence(12, "brackets .. around a whole TERM that begins with \"not\" behind \"some .. are\", \"is\" that are without it");
    asIs("some a are (not b)", "some a are (not b or c)", "some a are (not b who are c)", "w is (not a)",
      "w is (not a or b)", "w is (not a who are b or c)", "x is (not not a)", "some a are (not (b or c) or d)",
      "some not a are (not a)", "w is (not (a who are b))");
    written("some a are (not b) or c", "some a are (not b or c)");
    written("w is (not a) who are b", "w is (not a who are b)");
    written("w is ((not a))", "w is (not a)");
    written("w is ((not a) or b) or c", "w is (not a or b or c)");
  }

  private static void wholeTermsWithout() {
    check.sentence(12, "brackets .. and nowhere else (a TERM that begins with \"not\", in other places)");
    asIs("some not a are b", "some not a are not b", "some a are not not b", "some a are not not b or c", "w is not not a",
      "all not a are not b", "no not a are not b", "only not a are not b", "none but not a are not b", "there are not a",
      "there are no not a", "w is a or not b", "some a are b or not c", "some a are b who are not c",
      "w is (not a or b) who are c", "some a are (not b or c) who are not d");
    written("some (not a) are not (not b)", "some not a are not not b");
    written("all (not a) are (not b)", "all not a are not b");
    written("there are (not a)", "there are not a");
    written("w is ((not a) or b) who are c", "w is (not a or b) who are c");
  }

  private static void nowhereElse() {
    check.sentence(12, "brackets .. and nowhere else");
    written("all (a) are ((b))", "all a are b");
    written("all (a or b) are (c who are d)", "all a or b are c who are d");
    written("there are (a who are b) or (c who are d)", "there are a who are b or c who are d");
    written("w is not (a)", "w is not a");
    written("w is not (a or b)", "w is not a or b");
    written("w is not (not a)", "w is not not a");
    written("w is not (not (not a))", "w is not not not a");
    written("w is (a or not b)", "w is a or not b");
    written("some a are ((b))", "some a are b");
    written("there are a who are (not b)", "there are a who are not b");
    written("there are ((((((((a or b))))))))", "there are a or b");
  }

  private static void longest() {
    check.sentence(12, "How many signs (more than the TAPE had)");
    String text = "w is(" + "not ".repeat(57) + "(a or b))or c who are(a or b)who are(a or b)who are(a or b)who are(a or b)"
      + "who are(a or b)who are(a or b)who are(a or b)who are(a or b)who are(a or b)who are(a or b)";
    String due = "w is (" + "not ".repeat(57) + "(a or b) or c" + " who are (a or b)".repeat(10) + ")";
    String full = text + " ".repeat(Math.max(0, 400 - text.length()));
    due("bytes of the text", full.length(), 400);
    written(full, due);
    due("signs", Texts.asking(full).letter(-1, -1), 418);
  }

  public static void main(String[] args) {
    twelve();
    writes();
    writesNoSlip();
    writesNoQuestion();
    writesFirstOfThese();
    takes();
    takesNoSlip();
    notAtFirst();
    whatItWas();
    neither();
    subjects();
    whatIsSaid();
    notSimple();
    sizes();
    ofNothing();
    regions();
    noRegion();
    hasNothing();
    signs();
    noSign();
    blanks();
    orThatIsPlain();
    orBehindOr();
    whoBehindNot();
    whoBehindWho();
    wholeTerms();
    wholeTermsWithout();
    nowhereElse();
    longest();
    check.finish(7, 12);
  }
}
