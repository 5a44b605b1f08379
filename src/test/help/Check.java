/** Counts the answers that are not as due. */
final class Check {
  private int asked = 0;
  private int wrong = 0;

  void due(String call, long got, long want) {
    asked++;
    if (got != want) {
      wrong++;
      if (wrong <= 40) System.out.println(call + " answered " + got + ", due is " + want);
    }
  }

  void due(String call, String got, String want) {
    asked++;
    if (!got.equals(want)) {
      wrong++;
      if (wrong <= 40) System.out.println(call + " answered '" + got + "', due is '" + want + "'");
    }
  }

  boolean isWell() {
    return wrong == 0;
  }

  void finish() {
    System.out.println(asked + " answers, " + wrong + " not as due");
    if (wrong != 0 || asked == 0) System.exit(1);
  }
}
