/** Promises 1 to 6 at their edges, a sentence of the document each: a new object, the tape, what is read from it. */
public final class TapeEdgesTest {
  private static final Check check = new Check();
  private static final int LOW = Integer.MIN_VALUE;
  private static final int HIGH = Integer.MAX_VALUE;

  private static void due(String call, int got, int want) {
    check.due(call, (long) got, (long) want);
  }

  /** A tape of so many blanks. */
  private static MoodSlips blanks(int n) {
    MoodSlips x = new MoodSlips();
    while (x.count(4) < n) x.feed(0x20202020, 0x20202020, 0x20202020, 0x20202020, 0x20202020);
    x.end(n);
    return x;
  }

  /** A text that can be read, by slip() and by question(), and what it is written as. */
  private static void reads(String text, String written) {
    MoodSlips x = new MoodSlips();
    due("slip '" + text + "'", Texts.slip(x, text), 0);
    check.due("slip written '" + text + "'", Texts.written(x, 0), written);
    due("fault '" + text + "'", x.fault(), -1);
    due("question '" + text + "'", Texts.question(x, text), 0);
    check.due("question written '" + text + "'", Texts.written(x, -1), written);
  }

  /** A text that can't be read, by slip() and by question(): its fault. */
  private static void faults(String text, int place) {
    MoodSlips x = new MoodSlips();
    due("slip '" + text + "'", Texts.slip(x, text), -6);
    due("fault of slip '" + text + "'", x.fault(), place);
    x = new MoodSlips();
    due("question '" + text + "'", Texts.question(x, text), -6);
    due("fault of question '" + text + "'", x.fault(), place);
    due("tape behind '" + text + "'", x.count(4), 0);
  }

  // ---- promise 1 ----

  private static void noSlips() {
    check.sentence(1, "No SLIPS");
    MoodSlips x = new MoodSlips();
    due("count(0)", x.count(0), 0);
    due("quarrels(1)", x.quarrels(1), -1);
    due("of(0, 0)", x.of(0, 0), -1);
    due("has(0, 0)", x.has(0, 0), -1);
    due("letter(0, NONE)", x.letter(0, -1), -1);
    due("square(0, 0)", x.square(0, 0), -1);
    due("take(0)", x.take(0), -2);
    due("write(0)", x.write(0), -2);
    due("pair(0, 0, 0)", x.pair(0, 0, 0), -1);
    due("wrong(0, 0, 0)", x.wrong(0, 0, 0), -1);
    due("derive(0)", x.derive(0), 0);
    due("derive(1)", x.derive(1), 0);
    due("derived(0, 0, 1)", x.derived(0, 0, 1), -1);
    due("quarrel(NONE)", x.quarrel(-1), 0);
  }

  private static void noQuestion() {
    check.sentence(1, "no QUESTION (none at first)");
    MoodSlips x = new MoodSlips();
    due("count(1)", x.count(1), 0);
    for (int what = 0; what < 6; what++) due("of(NONE, " + what + ")", x.of(-1, what), -1);
    due("has(NONE, 0)", x.has(-1, 0), -1);
    due("letter(NONE, NONE)", x.letter(-1, -1), -1);
    due("letter(NONE, 0)", x.letter(-1, 0), -1);
    due("follows(0)", x.follows(0), -1);
    due("denied(0)", x.denied(0), -1);
    for (int what = 0; what < 3; what++) due("least(" + what + ")", x.least(what), -1);
    due("hint(0)", x.hint(0), -1);
    due("world(0, NONE)", x.world(0, -1), -1);
    due("posit()", x.posit(), -3);
    due("propose()", x.propose(), -3);
  }

  private static void emptyHeap() {
    check.sentence(1, "No SLIPS: the HEAP of none of them is there all the same");
    MoodSlips x = new MoodSlips();
    due("quarrels(0)", x.quarrels(0), 0);
    due("open(0)", x.open(0), 256);
    due("idle(0)", x.idle(0), 0);
    due("calm(0)", x.calm(0), 0);
    due("calm(1)", x.calm(1), 1);
    due("calm(2)", x.calm(2), 0);
    for (int mood = 0; mood < 4; mood++) {
      due("all(0, " + mood + ")", x.all(0, mood), 0);
      due("says(0, " + mood + ", 7, 0)", x.says(0, mood, 7, 0), 0);
    }
    due("between(0, 0, 7)", x.between(0, 0, 7), 0);
    for (int name = 0; name < 4; name++) {
      due("name(0, " + name + ", 0)", x.name(0, name, 0), 256);
      due("name(0, " + name + ", 1)", x.name(0, name, 1), 0);
    }
  }

  private static void apart() {
    check.sentence(1, "A new object (another one's SLIPS, QUESTION are not its)");
    MoodSlips other = Texts.asking("no a are b", "all a are b", "w is h");
    other.existence(1);
    other.posit();
    other.riddle(0, 3);
    other.image(0);
    other.take(9);
    Texts.question(other, "all");
    MoodSlips x = new MoodSlips();
    for (int what = 0; what < 10; what++) due("count(" + what + ")", x.count(what), 0);
    due("status()", x.status(), 0);
    due("fault()", x.fault(), -1);
    due("drawn(0, 0)", x.drawn(0, 0), -1);
    due("back(0)", x.back(0), -2);
  }

  // ---- promise 2 ----

  private static void highestFirst() {
    check.sentence(2, "Twenty bytes come behind the TAPE, four of each number, the highest first: how many it has");
    MoodSlips x = new MoodSlips();
    due("feed 'x is a or b or not c'", x.feed(0x78206973, 0x2061206f, 0x72206220, 0x6f72206e, 0x6f742063), 20);
    due("feed ' or d or e or f or g'", x.feed(0x206f7220, 0x64206f72, 0x2065206f, 0x72206620, 0x6f722067), 40);
    due("slip()", x.slip(), 0);
    check.due("written", Texts.written(x, 0), "x is a or b or not c or d or e or f or g");
  }

  private static void notOverFour() {
    check.sentence(2, "NONE, if there would be more than 400");
    MoodSlips x = new MoodSlips();
    for (int i = 1; i <= 20; i++) due("feed " + i, x.feed(0x20202020, 0x20202020, 0x20202020, 0x20202020, 0x20202020), 20 * i);
    due("feed at 400", x.feed(1, 1, 1, 1, 1), -1);
    due("count(4)", x.count(4), 400);
    due("end(399)", x.end(399), 399);
    due("feed at 399", x.feed(1, 1, 1, 1, 1), -1);
    due("count(4)", x.count(4), 399);
    due("end(381)", x.end(381), 381);
    due("feed at 381", x.feed(1, 1, 1, 1, 1), -1);
    due("count(4)", x.count(4), 381);
    due("end(380)", x.end(380), 380);
    due("feed at 380", x.feed(0x77206973, 0x206e6f74, 0x20612020, 0x20202020, 0x20202020), 400);
    due("slip()", x.slip(), 0);
    check.due("all that came, and nothing of what did not", Texts.written(x, 0), "w is not a");
    due("feed when it is empty again", x.feed(0, 0, 0, 0, 0), 20);
  }

  private static void feedIsNotRefused() {
    check.sentence(2, "NONE (not REFUSED)");
    MoodSlips x = blanks(400);
    x.take(0);
    due("feed", x.feed(0, 0, 0, 0, 0), -1);
    due("status()", x.status(), -2);
    due("count(5)", x.count(5), 0);
    due("count(8)", x.count(8), 0);
  }

  private static void anyByte() {
    check.sentence(2, "four of each number (numbers of any kind)");
    MoodSlips x = new MoodSlips();
    due("feed the least and the greatest", x.feed(LOW, HIGH, -1, 0, LOW), 20);
    due("slip()", x.slip(), -6);
    due("fault()", x.fault(), 0);
    due("a byte of 128 behind a sentence", x.feed(0x77206973, 0x20618000, HIGH, LOW, -1), 20);
    due("slip()", x.slip(), -6);
    due("fault()", x.fault(), 6);
    due("bytes of 255", x.feed(-1, -1, -1, -1, -1), 20);
    due("fault is that of the latest", x.fault(), 6);
  }

  // ---- promise 3 ----

  private static void firstBytes() {
    check.sentence(3, "The TAPE has its first n bytes alone: n");
    MoodSlips x = new MoodSlips();
    Texts.feed(x, "w is a or b or c or d");
    due("end(21)", x.end(21), 21);
    due("end(11)", x.end(11), 11);
    due("count(4)", x.count(4), 11);
    due("what was cut off is gone", x.end(12), -1);
    due("behind it", Texts.feed(x, " or h"), 16);
    due("question()", x.question(), 0);
    check.due("written", Texts.written(x, -1), "w is a or b or h");
    Texts.feed(x, "z is a");
    due("end(0)", x.end(0), 0);
    due("count(4)", x.count(4), 0);
    due("end(0) of nothing", x.end(0), 0);
    due("question()", x.question(), -6);
    due("end(400)", blanks(400).end(400), 400);
  }

  private static void notSoMany() {
    check.sentence(3, "NONE, if it has not so many");
    MoodSlips x = new MoodSlips();
    due("end(1) of nothing", x.end(1), -1);
    Texts.feed(x, "w is a");
    int[] over = {7, 20, 400, 401, HIGH};
    for (int n : over) due("end(" + n + ")", x.end(n), -1);
    due("count(4)", x.count(4), 6);
    due("end(6)", x.end(6), 6);
    due("question()", x.question(), 0);
    check.due("nothing was cut off", Texts.written(x, -1), "w is a");
    due("end(401)", blanks(400).end(401), -1);
  }

  private static void belowNothing() {
    check.sentence(3, "NONE, if .. n is below 0");
    MoodSlips x = new MoodSlips();
    due("end(-1) of nothing", x.end(-1), -1);
    Texts.feed(x, "w is a");
    int[] below = {-1, -2, -6, LOW, LOW + 6};
    for (int n : below) due("end(" + n + ")", x.end(n), -1);
    due("count(4)", x.count(4), 6);
    due("status()", x.status(), 0);
    due("count(5)", x.count(5), 0);
  }

  // ---- promise 4: numbers, room, an empty tape ----

  private static void numbers() {
    check.sentence(4, "becomes a SLIP: its number (0 .. 11)");
    MoodSlips x = new MoodSlips();
    for (int i = 0; i < 12; i++) {
      due("slip " + i, Texts.slip(x, i % 2 == 0 ? "all h are a" : "z is b"), i);
      due("count(0)", x.count(0), i + 1);
      if (i < 11) due("a faulty one takes no number", Texts.slip(x, "all h are"), -6);
      due("count(0)", x.count(0), i + 1);
    }
    due("count(0)", x.count(0), 12);
  }

  private static void emptyThen() {
    check.sentence(4, "The TAPE, which is empty then");
    MoodSlips x = new MoodSlips();
    due("slip", Texts.slip(x, "all h are a"), 0);
    due("count(4)", x.count(4), 0);
    due("nothing is left to read", x.slip(), -6);
    due("faulty", Texts.slip(x, "all h are a a"), -6);
    due("count(4) behind a faulty one", x.count(4), 0);
    due("end(1)", x.end(1), -1);
    due("feed", x.feed(0, 0, 0, 0, 0), 20);
  }

  private static void noRoom() {
    check.sentence(4, "-5 (12 at most)");
    MoodSlips x = new MoodSlips();
    for (int i = 0; i < 11; i++) Texts.slip(x, "all h are a");
    due("the 12th", Texts.slip(x, "no h are a"), 11);
    due("the 13th", Texts.slip(x, "no h are a"), -5);
    due("status()", x.status(), -5);
    due("again", Texts.slip(x, "no h are a"), -5);
    due("count(8)", x.count(8), 2);
    due("count(0)", x.count(0), 12);
    check.due("the 12th stays", Texts.written(x, 11), "no h are a");
    check.due("the first stays", Texts.written(x, 0), "all h are a");
    due("a heap of a 13th", x.quarrels(1 << 12), -1);
  }

  private static void noRoomAhead() {
    check.sentence(4, "-5 (ahead of reading it ..)");
    MoodSlips x = new MoodSlips();
    for (int i = 0; i < 12; i++) Texts.slip(x, "all h are a");
    due("a faulty text", Texts.slip(x, "all h"), -5);
    due("no fault, as it was not read", x.fault(), -1);
    due("an empty tape", x.slip(), -5);
    due("blanks alone", Texts.slip(x, "   "), -5);
    due("no fault by them", x.fault(), -1);
    due("count(9)", x.count(9), 0);
    Texts.question(x, "no a");
    due("fault of a question", x.fault(), 4);
    due("a good text", Texts.slip(x, "w is a"), -5);
    due("fault stays", x.fault(), 4);
  }

  private static void noRoomEmpties() {
    check.sentence(4, "-5 (.. the TAPE is empty then, too)");
    MoodSlips x = new MoodSlips();
    for (int i = 0; i < 12; i++) Texts.slip(x, "all h are a");
    String[] texts = {"w is a", "w is", "   ", ""};
    for (String text : texts) {
      Texts.feed(x, text);
      due("slip '" + text + "'", x.slip(), -5);
      due("count(4)", x.count(4), 0);
      due("end(1)", x.end(1), -1);
    }
    due("nothing is left for a question", x.question(), -6);
    due("fault()", x.fault(), 0);
  }

  private static void blanksAlone() {
    check.sentence(4, "-6 (blanks alone: FAULT at the end)");
    int[] lengths = {0, 1, 2, 20, 21, 399, 400};
    for (int n : lengths) {
      MoodSlips x = blanks(n);
      due(n + " blanks", x.slip(), -6);
      due("fault of " + n + " blanks", x.fault(), n);
      due("status of " + n + " blanks", x.status(), -6);
      due("count(0)", x.count(0), 0);
      due("count(4)", x.count(4), 0);
    }
  }

  // ---- promise 4: what a text is ----

  private static void wholeTape() {
    check.sentence(4, "TEXTS on a TAPE of at most 400 bytes");
    String nots = "not ".repeat(98);
    reads("w is  " + " " + nots + "h", "w is " + nots + "h");
    due("so long", ("w is  " + " " + nots + "h").length(), 400);
    reads("w is" + " ".repeat(395) + "h", "w is h");
    faults("w is" + " ".repeat(395) + "z", 399);
    faults("w is h" + " ".repeat(393) + "h", 399);
    faults("w is not" + " ".repeat(392), 400);
  }

  private static void longestRows() {
    check.sentence(4, "TOKENS: longest rows of letters a .. z");
    faults("alla are b", 0);
    faults("all aare b", 4);
    faults("all a areb", 6);
    faults("all ab are b", 4);
    faults("all a are bb", 10);
    faults("wis a", 0);
    faults("w isa", 2);
    faults("w is nota", 5);
    faults("nonebut a are b", 0);
    faults("there areno a", 6);
    faults("there are noa", 10);
    faults("all a orb are c", 6);
    faults("all a whoare b are c", 6);
    faults("al a are b", 0);
    faults("all a are b or", 14);
    faults("all a are bz", 10);
    faults("all a are az", 10);
  }

  private static void otherBytes() {
    check.sentence(4, "TOKENS: .. single other bytes");
    for (int sign = 0; sign < 256; sign++) {
      char c = (char) sign;
      boolean isLetter = c >= 'a' && c <= 'z';
      if (c == ' ') reads("w is a" + c, "w is a");
      else faults("w is a" + c, isLetter ? 5 : 6);
      if (c != ' ' && !isLetter) faults(c + "w is a", 0);
      if (c == '(') reads("w is (a)", "w is a");
      else if (c != ' ' && !isLetter) faults("w is " + c + "a", 5);
    }
    faults("w is A", 5);
    faults("W is a", 0);
    faults("w is a.", 6);
    faults("w is a\n", 6);
    faults("w is\ta", 4);
    faults("all a are b))", 11);
    faults("all ((a))) are b", 9);
  }

  private static void blanksBetween() {
    check.sentence(4, "any blanks (32) between");
    reads("w is a", "w is a");
    reads("   w    is     a   ", "w is a");
    reads("none  but   a    are     b", "none but a are b");
    reads("there   are    no  a", "there are no a");
    reads("some a who   are b are   not c", "some a who are b are not c");
    reads("all(a)are(b)", "all a are b");
    reads("all ( a )are( b )", "all a are b");
    reads("w is(a)or(b)who are(c)", "w is a or b who are c");
    reads("w is not(a or b)", "w is not a or b");
    reads("no(a)or not(b)are c", "no a or not b are c");
    faults("w i s a", 2);
    faults("a ll a are b", 0);
    faults("all a wh o are b are c", 6);
  }

  private static void forms() {
    check.sentence(4, "SENTENCE: \"all\" TERM \"are\" TERM | .. | NAME \"is\" [\"not\"] TERM");
    String[] good = {"all a are h", "no a are h", "some a are h", "some a are not h", "only a are h", "none but a are h",
      "there are a", "there are no a", "w is a", "w is not a", "x is h", "y is h", "z is h", "z is not h"};
    for (String text : good) reads(text, text);
    faults("v is a", 0);
    faults("a is a", 0);
    faults("all i are b", 4);
    faults("all a are i", 10);
    faults("all w are b", 4);
    faults("w is x", 5);
    faults("w is no a", 5);
    faults("w are a", 2);
    faults("there is a", 6);
    faults("no not", 6);
    faults("none a are b", 5);
    faults("only but a are b", 5);
    faults("all a are no b", 10);
    faults("there are no no a", 13);
    faults("there are a are b", 12);
    faults("w is a are b", 7);
    faults("all a is b", 6);
    faults("all a are b are c", 12);
    faults("are a", 0);
    faults("not w is a", 0);
  }

  private static void ownNot() {
    check.sentence(4, "A \"not\" behind \"some .. are\", \"is\" is that of the SENTENCE");
    MoodSlips x = Texts.with("some a are not b", "some a are (not b)", "some a are not not b", "w is not a",
      "w is (not a)", "w is not not a", "all a are not b", "some not a are b", "there are not a", "there are no not a",
      "some a are not b or c", "w is not a or b");
    int[] moods = {3, -1, -1, -1, -1, -1, -1, -1, -1, -1, -1, -1};
    int[] sizes = {64, 64, 64, 128, 128, 128, 64, 64, 128, 128, 32, 64};
    int[] says = {1, 1, 1, 2, 2, 2, 0, 1, 1, 0, 1, 2};
    for (int i = 0; i < 12; i++) {
      due("of(" + i + ", 1)", x.of(i, 1), moods[i]);
      due("of(" + i + ", 5)", x.of(i, 5), sizes[i]);
      due("of(" + i + ", 0)", x.of(i, 0), says[i]);
    }
    due("some a are not not b: region of a and b", x.has(2, 3), 1);
    due("some a are not not b: region of a", x.has(2, 1), 0);
    due("w is not not a: region of a", x.has(5, 1), 1);
    due("w is not not a: region of none", x.has(5, 0), 0);
    due("w is not a or b: not (a or b), region of b", x.has(11, 2), 0);
    due("w is not a or b: region of none", x.has(11, 0), 1);
    due("some a are not b or c: region of a and c", x.has(10, 5), 0);
    reads("some a are not not b", "some a are not not b");
    reads("w is not (not a)", "w is not not a");
  }

  private static void plainNot() {
    check.sentence(4, "PLAIN: \"not\" PLAIN | \"(\" TERM \")\" | KIND; BOTH: PLAIN {\"who\" \"are\" PLAIN}; TERM: BOTH {\"or\" BOTH}");
    MoodSlips x = Texts.with("there are not a who are b", "there are not (a who are b)", "there are not a or b",
      "there are a or b who are c", "there are (a or b) who are c", "there are not not a");
    int[] sizes = {64, 192, 192, 160, 96, 128};
    for (int i = 0; i < sizes.length; i++) due("of(" + i + ", 5)", x.of(i, 5), sizes[i]);
    for (int nots = 0; nots < 7; nots++) {
      Texts.ask(x, "there are " + "not ".repeat(nots) + "a");
      due(nots + " times not a: region of a", x.has(-1, 1), 1 - nots % 2);
      due(nots + " times not a: region of none", x.has(-1, 0), nots % 2);
      Texts.ask(x, "w is (" + "not (".repeat(nots) + "a or b" + ")".repeat(nots) + ")");
      due(nots + " times not (a or b): region of b", x.has(-1, 2), 1 - nots % 2);
    }
    faults("w is (not)", 9);
    faults("w is (a", 7);
    faults("w is ()", 6);
    faults("w is a who b", 11);
    faults("w is a who are", 14);
    faults("w is a or or b", 10);
    faults("w is a not b", 7);
    faults("w is a (b)", 7);
    faults("w is or a", 5);
    faults("w is a)", 6);
  }

  // ---- promise 4: limits of a text ----

  private static void kinds() {
    check.sentence(4, "24 KINDS in all (FAULT at the 25th)");
    for (int n = 2; n <= 24; n++) {
      String text = "all " + "a or ".repeat(n - 2) + "b are c";
      reads(text, text);
    }
    faults("all " + "a or ".repeat(23) + "b are c", 4 + 5 * 23 + 6);
    faults("all " + "a or ".repeat(24) + "b are c", 4 + 5 * 24);
    faults("all a are " + "a or ".repeat(23) + "b", 10 + 5 * 23);
    reads("all a are " + "a or ".repeat(22) + "b", "all a are " + "a or ".repeat(22) + "b");
    String names = "z is " + "a or ".repeat(23) + "h";
    reads(names, names);
    faults("z is " + "a or ".repeat(24) + "h", 5 + 5 * 24);
    reads("there are no " + "(h)or".repeat(23) + "(h)", "there are no " + "h or ".repeat(23) + "h");
    faults("there are no " + "(h)or".repeat(24) + "(h)", 13 + 5 * 24 + 1);
    faults("there are " + "a or ".repeat(24) + "no", 10 + 5 * 24);
    faults("w is " + "a who are not ".repeat(24) + "b", 5 + 14 * 24);
    MoodSlips x = Texts.with("w is " + "a or ".repeat(23) + "b");
    due("of each text anew: 24 again", Texts.slip(x, "w is " + "a or ".repeat(23) + "b"), 1);
    Texts.slip(x, "w is " + "a or ".repeat(24) + "b");
    due("and again behind a faulty one", Texts.slip(x, "w is " + "a or ".repeat(23) + "b"), 2);
  }

  private static void brackets() {
    check.sentence(4, "8 brackets within one another (FAULT at the 9th) at most");
    for (int n = 0; n <= 8; n++) {
      reads("w is " + "(".repeat(n) + "a" + ")".repeat(n), "w is a");
      String one = "(".repeat(n) + "a" + ")".repeat(n);
      reads("all " + one + " are " + one, "all a are a");
    }
    faults("w is " + "(".repeat(9) + "a" + ")".repeat(9), 13);
    faults("w is " + "( ".repeat(9) + "a" + " )".repeat(9), 21);
    faults("all a are " + "(".repeat(9) + "a", 18);
    faults("all " + "(".repeat(8) + "a" + ")".repeat(8) + " are " + "(".repeat(9) + "a", 34);
    faults("w is " + "not (".repeat(9) + "a", 5 + 5 * 8 + 4);
    reads("w is not " + "(not ".repeat(8) + "a" + ")".repeat(8), "w is not " + "not ".repeat(8) + "a");
    faults("w is " + "(".repeat(20), 13);
    faults("w is " + "(".repeat(8), 13);
    StringBuilder beside = new StringBuilder("w is (a)");
    for (int i = 1; i < 24; i++) beside.append(" or (a)");
    reads(beside.toString(), "w is " + "a or ".repeat(23) + "a");
    reads("w is " + "(".repeat(7) + "(a) or (b)" + ")".repeat(7), "w is a or b");
    faults("w is " + "(".repeat(7) + "(a) or ((b))" + ")".repeat(7), 20);
    reads("w is ((((((((a)))))))) or ((((((((b))))))))", "w is a or b");
  }

  private static void firstFault() {
    check.sentence(4, "FAULT: the first TOKEN that can't go on there");
    faults("all all are b", 4);
    faults("all a a are b", 6);
    faults("  xyz", 2);
    faults("all a are b c d", 12);
    faults("some a are not are", 15);
    faults("all a who are (b or i) are c", 20);
    faults("all a are b ) (", 12);
    faults("   w   are   a", 7);
  }

  private static void endFault() {
    check.sentence(4, "(the end's: the TEXT's length)");
    String[] short1 = {"all", "no", "some", "only", "none", "none but", "there", "there are", "there are no", "w", "w is",
      "w is not", "all a", "all a are", "some a are not", "all a or", "all a who", "all a who are", "all not", "all (",
      "all (a", "w is (a", "all a are (b or c", "only a", "none but a are"};
    for (String text : short1) {
      faults(text, text.length());
      faults(text + "   ", text.length() + 3);
      faults("  " + text, text.length() + 2);
    }
  }

  // ---- promise 5 ----

  private static void questionEmpties() {
    check.sentence(5, "The TAPE, which is empty then, becomes the QUESTION: 0");
    MoodSlips x = new MoodSlips();
    due("question", Texts.question(x, "z is h"), 0);
    due("count(1)", x.count(1), 1);
    due("count(4)", x.count(4), 0);
    due("end(1)", x.end(1), -1);
    due("another", Texts.question(x, "w is a"), 0);
    check.due("that it is", Texts.written(x, -1), "w is a");
    due("faulty", Texts.question(x, "w is"), -6);
    due("count(4)", x.count(4), 0);
    due("no SLIP by it", x.count(0), 0);
  }

  private static void questionStays() {
    check.sentence(5, "-6 (the one before stays)");
    MoodSlips x = new MoodSlips();
    String[] bad = {"", "  ", "w", "w is a a", "all"};
    for (String text : bad) {
      due("question '" + text + "'", Texts.question(x, text), -6);
      due("none before, none then", x.count(1), 0);
      due("status()", x.status(), -6);
    }
    due("question", Texts.question(x, "z is h"), 0);
    for (String text : bad) {
      due("question '" + text + "'", Texts.question(x, text), -6);
      check.due("stays", Texts.written(x, -1), "z is h");
      due("of(NONE, 4)", x.of(-1, 4), 3);
    }
    due("count(9)", x.count(9), 10);
  }

  private static void questionNeedsNoRoom() {
    check.sentence(5, "-6 (and no -5)");
    MoodSlips x = new MoodSlips();
    for (int i = 0; i < 12; i++) Texts.slip(x, "all h are a");
    due("question beside 12 slips", Texts.question(x, "w is a"), 0);
    due("a faulty one", Texts.question(x, "w is"), -6);
    due("blanks", Texts.question(x, "    "), -6);
    due("fault of blanks", x.fault(), 4);
  }

  // ---- promise 6 ----

  private static void faultOfLatest() {
    check.sentence(6, "FAULT of the latest slip(), question() that read a TEXT: its place");
    MoodSlips x = new MoodSlips();
    Texts.slip(x, "w");
    due("of a slip", x.fault(), 1);
    Texts.question(x, "all a");
    due("of a question", x.fault(), 5);
    Texts.slip(x, "");
    due("of nothing at all", x.fault(), 0);
    due("asked again", x.fault(), 0);
    Texts.question(x, "  x are");
    due("of a question again", x.fault(), 4);
    x.feed(0, 0, 0, 0, 0);
    x.end(3);
    x.take(0);
    x.write(0);
    x.posit();
    x.propose();
    x.riddle(0, 3);
    x.existence(1);
    x.image(0);
    x.back(0);
    x.image(7);
    due("other calls read nothing", x.fault(), 4);
  }

  private static void faultNone() {
    check.sentence(6, "NONE without");
    MoodSlips x = new MoodSlips();
    due("ahead of any", x.fault(), -1);
    Texts.slip(x, "w is a");
    due("of a good slip", x.fault(), -1);
    Texts.slip(x, "w is");
    due("of a faulty one", x.fault(), 4);
    Texts.question(x, "w is a");
    due("of a good question behind it", x.fault(), -1);
    Texts.question(x, "w is");
    due("of a faulty one", x.fault(), 4);
    Texts.slip(x, "w is a");
    due("of a good slip behind it", x.fault(), -1);
  }

  public static void main(String[] args) {
    noSlips();
    noQuestion();
    emptyHeap();
    apart();
    highestFirst();
    notOverFour();
    feedIsNotRefused();
    anyByte();
    firstBytes();
    notSoMany();
    belowNothing();
    numbers();
    emptyThen();
    noRoom();
    noRoomAhead();
    noRoomEmpties();
    blanksAlone();
    wholeTape();
    longestRows();
    otherBytes();
    blanksBetween();
    forms();
    ownNot();
    plainNot();
    kinds();
    brackets();
    firstFault();
    endFault();
    questionEmpties();
    questionStays();
    questionNeedsNoRoom();
    faultOfLatest();
    faultNone();
    check.finish(1, 6);
  }
}
