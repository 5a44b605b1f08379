/** Brings texts to a MoodSlips and back. */
final class Texts {
  private Texts() {
  }

  /** The text comes behind the tape: how many bytes that has, or NONE. */
  static int feed(MoodSlips x, String text) {
    int before = x.count(4);
    int have = before;
    for (int at = 0; at < text.length(); at += 20) {
      int[] n = new int[5];
      for (int i = 0; i < 20; i++) {
        int sign = at + i < text.length() ? text.charAt(at + i) & 255 : 0;
        n[i / 4] |= sign << (24 - 8 * (i % 4));
      }
      have = x.feed(n[0], n[1], n[2], n[3], n[4]);
      if (have == MoodSlips.NONE) return have;
    }
    return x.end(before + text.length());
  }

  static int slip(MoodSlips x, String text) {
    x.end(0);
    feed(x, text);
    return x.slip();
  }

  static int question(MoodSlips x, String text) {
    x.end(0);
    feed(x, text);
    return x.question();
  }

  /** A new object with these slips, all of which can be read. */
  static MoodSlips with(String... slips) {
    MoodSlips x = new MoodSlips();
    for (int i = 0; i < slips.length; i++)
      if (slip(x, slips[i]) != i) throw new IllegalArgumentException("can't be slip " + i + ": " + slips[i]);
    return x;
  }

  /** A new object with a question, which can be read, and slips. */
  static MoodSlips asking(String question, String... slips) {
    MoodSlips x = with(slips);
    ask(x, question);
    return x;
  }

  /** A question that can be read. */
  static void ask(MoodSlips x, String question) {
    if (question(x, question) != 0) throw new IllegalArgumentException("can't be the question: " + question);
  }

  /** A slip as it is written (NONE: the question). */
  static String written(MoodSlips x, int slip) {
    int length = x.letter(slip, MoodSlips.NONE);
    StringBuilder b = new StringBuilder();
    for (int i = 0; i < length; i++) b.append((char) x.letter(slip, i));
    return b.toString();
  }
}
