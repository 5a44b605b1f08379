import java.util.ArrayList;
import java.util.List;
import java.util.Random;

/** Random texts, right and spoilt, against a machine that takes one token at a time: promises 2 to 6, 10 to 12. */
public final class TongueTest {
  private static final Check check = new Check();
  private static final Random random = new Random(7);

  /** A term: a kind, or a sort ("not", "or", "who") of parts. */
  private record Term(char sort, Term left, Term right) {
    boolean has(int region) {
      switch (sort) {
        case '!': return !left.has(region);
        case '|': return left.has(region) || right.has(region);
        case '&': return left.has(region) && right.has(region);
        default: return (region >> (sort - 'a') & 1) != 0;
      }
    }
  }

  // ---- texts drawn ----

  private static String blanks() {
    return " ".repeat(random.nextInt(6) == 0 ? 1 + random.nextInt(3) : 1);
  }

  private static String maybeBlank() {
    return random.nextInt(3) == 0 ? blanks() : "";
  }

  private static String bracketed(String s) {
    return "(" + maybeBlank() + s + maybeBlank() + ")";
  }

  /** The text of a term with more brackets than there must be; rank as how tightly it holds. */
  private static String text(Term t, int rank) {
    String s;
    int own;
    switch (t.sort) {
      case '|':
        s = text(t.left, 0) + blanks() + "or" + blanks() + text(t.right, 1);
        own = 0;
        break;
      case '&':
        s = text(t.left, 1) + blanks() + "who" + blanks() + "are" + blanks() + text(t.right, 2);
        own = 1;
        break;
      case '!':
        s = "not" + blanks() + text(t.left, 2);
        own = 2;
        break;
      default:
        s = "" + t.sort;
        own = 2;
    }
    if (own < rank || random.nextInt(9) == 0) s = bracketed(s);
    return s;
  }

  private static Term term(int depth) {
    int pick = depth == 0 ? 0 : random.nextInt(7);
    if (pick < 2) return new Term((char) ('a' + random.nextInt(8)), null, null);
    if (pick < 4) return new Term('!', term(depth - 1), null);
    return new Term(pick < 6 ? '|' : '&', term(depth - 1), term(depth - 1));
  }

  // ---- how a text is due to be written ----

  private static String due(Term t) {
    switch (t.sort) {
      case '|': return due(t.left) + " or " + (t.right.sort == '|' ? "(" + due(t.right) + ")" : due(t.right));
      case '&':
        return (t.left.sort == '|' ? "(" + due(t.left) + ")" : due(t.left)) + " who are "
          + (t.right.sort == '|' || t.right.sort == '&' ? "(" + due(t.right) + ")" : due(t.right));
      case '!': return "not " + (t.left.sort == '|' || t.left.sort == '&' ? "(" + due(t.left) + ")" : due(t.left));
      default: return "" + t.sort;
    }
  }

  private static String dueGuarded(Term t) {
    String s = due(t);
    return s.startsWith("not") ? "(" + s + ")" : s;
  }

  // ---- whole sentences ----

  private static void checkSentence(int run) {
    int depth = random.nextInt(4);
    Term a = term(depth);
    Term b = term(depth);
    MoodSlips x = new MoodSlips();
    String ta = text(a, 0);
    String tb = text(b, 0);
    int form = random.nextInt(11);
    char name = (char) ('w' + random.nextInt(4));
    if (form == 2 && tb.startsWith("not")) tb = bracketed(tb);
    if (form == 8 && ta.startsWith("not")) ta = bracketed(ta);
    String[] raw = {
      "all " + ta + " are " + tb, "no " + ta + " are " + tb, "some " + ta + " are " + tb,
      "some " + ta + " are not " + tb, "only " + ta + " are " + tb, "none but " + ta + " are " + tb,
      "there are " + ta, "there are no " + ta, name + " is " + ta, name + " is not " + ta, "all " + ta + " are " + ta
    };
    String[] dues = {
      "all " + due(a) + " are " + due(b), "no " + due(a) + " are " + due(b), "some " + due(a) + " are " + dueGuarded(b),
      "some " + due(a) + " are not " + due(b), "only " + due(a) + " are " + due(b),
      "none but " + due(a) + " are " + due(b), "there are " + due(a), "there are no " + due(a),
      name + " is " + dueGuarded(a), name + " is not " + due(a), "all " + due(a) + " are " + due(a)
    };
    String given = maybeBlank() + raw[form] + maybeBlank();
    // Blanks beside brackets may be left out.
    if (random.nextBoolean()) given = given.replace(" (", "(").replace(") ", ")");
    if (given.length() > 400) return;
    int fault = Machine.faultOf(given);
    check.due(given, Texts.slip(x, given), fault < 0 ? 0 : -6);
    check.due("fault of " + given, x.fault(), fault);
    check.due("tape", x.count(4), 0);
    if (fault >= 0) return;
    check.due("written " + run, Texts.written(x, 0), dues[form]);
    check.due("of 4", x.of(0, 4), form == 8 || form == 9 ? name - 'w' : -1);
    check.due("of 0", x.of(0, 0), form == 8 || form == 9 ? 2 : form == 2 || form == 3 || form == 6 ? 1 : 0);
    Term first = form == 4 || form == 5 ? b : a;
    Term second = form == 4 || form == 5 ? a : form == 10 ? a : b;
    int size = 0;
    for (int r = 0; r < 256; r++) {
      boolean in;
      if (form == 6 || form == 7 || form == 8) in = a.has(r);
      else if (form == 9) in = !a.has(r);
      else if (form == 1 || form == 2) in = a.has(r) && b.has(r);
      else in = first.has(r) && !second.has(r);
      check.due("has " + r + " " + given, x.has(0, r), in ? 1 : 0);
      if (in) size++;
    }
    check.due("of 5 " + given, x.of(0, 5), size);
    boolean isSimple = form <= 5 && Character.isLetter(a.sort) && Character.isLetter(b.sort) && a.sort != b.sort;
    int[] moods = {0, 1, 2, 3, 0, 0};
    check.due("of 1 " + given, x.of(0, 1), isSimple ? moods[form] : -1);
    check.due("of 2 " + given, x.of(0, 2), isSimple ? first.sort - 'a' : -1);
    check.due("of 3 " + given, x.of(0, 3), isSimple ? second.sort - 'a' : -1);
    // What is written reads as the same, and no pair of brackets can be left out.
    String written = Texts.written(x, 0);
    check.due("again", Texts.slip(x, written), 0 + 1);
    check.due("again written", Texts.written(x, 1), written);
    for (int i = 0; i < written.length(); i++) {
      if (written.charAt(i) != '(') continue;
      int open = 0;
      int j = i;
      do {
        if (written.charAt(j) == '(') open++;
        if (written.charAt(j) == ')') open--;
        j++;
      } while (open > 0);
      String less = written.substring(0, i) + written.substring(i + 1, j - 1) + written.substring(j);
      MoodSlips y = new MoodSlips();
      boolean differs = Texts.slip(y, less) != 0 || !Texts.written(y, 0).equals(written);
      check.due("brackets needed in " + written + " at " + i, differs ? 1 : 0, 1);
    }
  }

  // ---- spoilt texts ----

  private static final String[] WORDS = {"all", "no", "some", "only", "none", "but", "there", "are", "not", "is", "or",
    "who", "(", ")", "a", "b", "h", "i", "w", "z", "v", "x", "aa", "alla", "A", ".", "\0", "\t", "" + (char) 160,
    "" + (char) 225};

  private static void checkSpoilt(int run) {
    List<String> tokens = new ArrayList<>();
    String good = "none but " + text(term(2), 0) + " are " + text(term(2), 0);
    if (random.nextBoolean()) good = "some " + text(term(2), 0) + " are not " + text(term(2), 0);
    if (random.nextInt(4) == 0) good = "y is " + text(term(3), 0);
    if (random.nextInt(4) == 0) good = "there are no " + text(term(3), 0);
    for (String t : good.replace("(", " ( ").replace(")", " ) ").trim().split(" +")) tokens.add(t);
    int changes = random.nextInt(4);
    for (int i = 0; i < changes && !tokens.isEmpty(); i++) {
      int at = random.nextInt(tokens.size());
      int pick = random.nextInt(4);
      if (pick == 0) tokens.remove(at);
      else if (pick == 1) tokens.add(at, WORDS[random.nextInt(WORDS.length)]);
      else if (pick == 2) tokens.set(at, WORDS[random.nextInt(WORDS.length)]);
      else while (tokens.size() > at) tokens.remove(tokens.size() - 1);
    }
    String text = maybeBlank() + String.join(" ", tokens) + maybeBlank();
    if (text.length() > 400) return;
    MoodSlips x = new MoodSlips();
    int fault = Machine.faultOf(text);
    check.due("spoilt '" + text + "'", Texts.question(x, text), fault < 0 ? 0 : -6);
    check.due("fault of '" + text + "'", x.fault(), fault);
    check.due("question", x.count(1), fault < 0 ? 1 : 0);
  }

  /** A machine of states that takes tokens one at a time. */
  private static final class Machine {
    static int faultOf(String text) {
      List<int[]> spans = new ArrayList<>();
      int i = 0;
      while (i < text.length()) {
        char c = text.charAt(i);
        if (c == ' ') {
          i++;
          continue;
        }
        int j = i + 1;
        if (c >= 'a' && c <= 'z') while (j < text.length() && text.charAt(j) >= 'a' && text.charAt(j) <= 'z') j++;
        spans.add(new int[] {i, j});
        i = j;
      }
      String state = "start";
      int kinds = 0;
      int depth = 0;
      String form = "";
      boolean second = false;
      for (int[] span : spans) {
        String t = text.substring(span[0], span[1]);
        String next = null;
        boolean isKind = t.length() == 1 && t.charAt(0) >= 'a' && t.charAt(0) <= 'h';
        switch (state) {
          case "start":
            form = t;
            if (t.length() == 1 && t.charAt(0) >= 'w' && t.charAt(0) <= 'z') next = "is";
            if (t.equals("there")) next = "there";
            if (t.equals("none")) next = "but";
            if (t.equals("all") || t.equals("no") || t.equals("some") || t.equals("only")) next = "plain";
            break;
          case "is":
            if (t.equals("is")) next = "plain";
            second = true;
            break;
          case "there":
            if (t.equals("are")) next = "no?";
            second = true;
            break;
          case "but":
            if (t.equals("but")) next = "plain";
            break;
          case "who":
            if (t.equals("are")) next = "plain";
            break;
          case "plain", "no?":
            if (t.equals("not") || t.equals("no") && state.equals("no?")) next = "plain";
            if (t.equals("(") && depth < 8) {
              depth++;
              next = "plain";
            }
            if (isKind && kinds < 24) {
              kinds++;
              next = "behind";
            }
            break;
          default:
            if (t.equals("or")) next = "plain";
            if (t.equals("who")) next = "who";
            if (t.equals(")") && depth > 0) {
              depth--;
              next = "behind";
            }
            if (t.equals("are") && depth == 0 && !second) {
              second = true;
              next = "plain";
            }
        }
        if (next == null) return span[0];
        state = next;
      }
      return state.equals("behind") && depth == 0 && second ? -1 : text.length();
    }
  }

  private static void checkLimits() {
    for (int kinds = 22; kinds <= 27; kinds++) {
      String text = "all " + "a or ".repeat(kinds - 2) + "b are c";
      MoodSlips x = new MoodSlips();
      check.due(text, Texts.slip(x, text), kinds <= 24 ? 0 : -6);
      check.due(text, x.fault(), kinds <= 24 ? -1 : kinds == 25 ? text.length() - 1 : 4 + 5 * 24);
    }
    MoodSlips x = new MoodSlips();
    check.due("25 kinds", Texts.slip(x, "there are " + "a or ".repeat(24) + "b"), -6);
    check.due("the 25th", x.fault(), 10 + 5 * 24);
    check.due("8 brackets", Texts.slip(x, "all ((((((((a)))))))) are ((((((((b or c))))))))"), 0);
    check.due("written", Texts.written(x, 0), "all a are b or c");
    check.due("9 brackets", Texts.slip(x, "all (((((((((a))))))))) are b"), -6);
    check.due("the 9th", x.fault(), 12);
    check.due("many brackets side by side", Texts.slip(x, "there are (a) or (b) or (c) or (d) or (e) or (f) or (g) or (h) or (a) or (b)"), 1);
    String nots = "x is " + "not ".repeat(98) + "a  ";
    check.due("a full tape of not", nots.length(), 400);
    check.due("98 not", Texts.slip(x, nots), 2);
    check.due("its set", x.has(2, 1), 1);
    check.due("its signs", x.letter(2, -1), 398);
    checkLonger(x);
    check.due("nothing", Texts.slip(x, ""), -6);
    check.due("nothing's fault", x.fault(), 0);
    check.due("all at the end", Texts.slip(x, "all a are   "), -6);
    check.due("at the length", x.fault(), 12);
  }

  /** A full tape without blanks beside brackets is longer when it is written. */
  private static void checkLonger(MoodSlips x) {
    String part = "not(a or b)who are not(a who are c)or ";
    String spread = "not (a or b) who are not (a who are c) or ";
    String filling = "not ".repeat(40);
    String tight = "w is(" + filling + part.repeat(5).trim() + " a)";
    String due = "w is (" + filling + spread.repeat(5) + "a)";
    tight = tight + " ".repeat(400 - tight.length());
    check.due("a full tape", tight.length(), 400);
    check.due(tight, Texts.slip(x, tight), x.count(0) - 1);
    check.due("longer", Texts.written(x, x.count(0) - 1), due);
    String dense = "some(not(a or b))who are not(a or b)who are not(a or b)who are not(a or b)who are not(a or b)"
      + "who are not(a or b)who are not(a or b)who are not(a or b)who are not(a or b)who are not(a or b)are("
      + "not ".repeat(44) + "(a or b))";
    check.due(dense, dense.length() <= 400 ? 1 : 0, 1);
    check.due(dense, Texts.slip(x, dense), x.count(0) - 1);
    check.due("dense", Texts.written(x, x.count(0) - 1), "some not (a or b)" + " who are not (a or b)".repeat(9)
      + " are (" + "not ".repeat(44) + "(a or b))");
  }

  public static void main(String[] args) {
    checkLimits();
    for (int run = 0; run < 4000 && check.isWell(); run++) checkSentence(run);
    for (int run = 0; run < 20000 && check.isWell(); run++) checkSpoilt(run);
    check.finish();
  }
}
