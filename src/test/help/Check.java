import java.util.BitSet;

/** Counts the answers that are not as due. */
final class Check {
  private int asked = 0;
  private int wrong = 0;
  private String about = "";
  private int askedAhead = 0;
  private final BitSet promises = new BitSet();

  /** The sentence of the document that what is asked from here on would not hold without. */
  void sentence(int promise, String words) {
    endSentence();
    promises.set(promise);
    about = "promise " + promise + ", \"" + words + "\": ";
    askedAhead = asked;
  }

  private void endSentence() {
    if (!about.isEmpty() && asked == askedAhead) tell(about + "nothing is asked");
  }

  private void tell(String what) {
    wrong++;
    if (wrong <= 40) System.out.println(what);
  }

  void due(String call, long got, long want) {
    asked++;
    if (got != want) tell(about + call + " answered " + got + ", due is " + want);
  }

  void due(String call, String got, String want) {
    asked++;
    if (!got.equals(want)) tell(about + call + " answered '" + got + "', due is '" + want + "'");
  }

  boolean isWell() {
    return wrong == 0;
  }

  void finish() {
    endSentence();
    System.out.println(asked + " answers, " + wrong + " not as due");
    if (wrong != 0 || asked == 0) System.exit(1);
  }

  /** Each of these promises must have been looked at by a sentence. */
  void finish(int first, int last) {
    for (int p = first; p <= last; p++) if (!promises.get(p)) tell("promise " + p + " has no sentence");
    finish();
  }
}
