import java.lang.management.ManagementFactory;

/**
 * What a run of 512 calls makes, in bytes: all of it lives in one room of some 7.3 million fields and elements, so the
 * dearest calls there are must stay far below that.
 */
public final class RoomTest {
  private static final Check check = new Check();
  // A fiftieth of the room, if each field or element took a single byte; more would be rows made anew by each call.
  private static final long MOST = 146_000;
  private static final com.sun.management.ThreadMXBean THREADS =
    (com.sun.management.ThreadMXBean) ManagementFactory.getThreadMXBean();

  private interface Run {
    void on(MoodSlips x);
  }

  private static final int[] NAMED = words("w is a");
  private static final int[] ALL = words("all a are b");

  private static int[] words(String text) {
    int[] n = new int[5];
    for (int i = 0; i < 20; i++) n[i / 4] |= (i < text.length() ? text.charAt(i) : ' ') << (24 - 8 * (i % 4));
    return n;
  }

  private static void put(MoodSlips x, int[] n) {
    x.feed(n[0], n[1], n[2], n[3], n[4]);
  }

  /** A first run is left out: what the machine makes for itself then is none of the program's. */
  private static void within(String name, Run run) {
    run.on(new MoodSlips());
    long before = THREADS.getCurrentThreadAllocatedBytes();
    run.on(new MoodSlips());
    long made = THREADS.getCurrentThreadAllocatedBytes() - before;
    check.due(name + ": " + made + " bytes are too many", made > MOST ? 1 : 0, 0);
  }

  /** Two calls a text: no other calls make more sentences. */
  private static void reads(MoodSlips x) {
    for (int i = 0; i < 256; i++) {
      put(x, i % 2 == 0 ? NAMED : ALL);
      check.due("a text", x.question(), 0);
    }
  }

  private static void readsLong(MoodSlips x) {
    int[] nots = words("not not not not not ");
    for (int i = 0; i < 24; i++) {
      put(x, words("w is a or not       "));
      for (int k = 0; k < 18; k++) put(x, nots);
      put(x, words("a"));
      check.due("a long text", x.question(), 0);
    }
  }

  /** Twelve things there are, and one that the question's denial wants: the largest tables. */
  private static void twelve(MoodSlips x) {
    for (int i = 0; i < 12; i++) {
      put(x, words("there are " + (char) ('a' + i % 8)));
      check.due("a slip", x.slip(), i);
    }
    put(x, ALL);
    check.due("the question", x.question(), 0);
  }

  /** Each change makes all be found anew. */
  private static void finds(MoodSlips x) {
    twelve(x);
    for (int i = 0; i < 78; i++) {
      x.existence(i % 2);
      x.world(4095, -1);
      x.least(0);
      x.quarrel(-1);
      x.calm(0);
      x.derive(0);
    }
  }

  private static void plays(MoodSlips x) {
    twelve(x);
    for (int i = 0; i < 58; i++) {
      x.riddle(i, 12);
      x.drawn(-1, 0);
      x.posit();
      x.propose();
      x.image(i % 2);
      x.back(i % 2);
      x.hint(4095);
      x.idle(4095);
    }
  }

  public static void main(String[] args) {
    within("an object", x -> { });
    within("texts that are read", RoomTest::reads);
    within("long texts", RoomTest::readsLong);
    within("what is found", RoomTest::finds);
    within("disputes, riddles, images", RoomTest::plays);
    check.finish();
  }
}
