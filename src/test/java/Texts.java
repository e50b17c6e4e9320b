import java.util.NoSuchElementException;

/** What all tests of SnakeRow share: how a text comes on the tape, and how a call that throws is told as a number. */
final class Texts {
  /** In place of an answer: NoSuchElementException. */
  static final int THROWN = -99;

  private static final int BLANK = 32;

  private Texts() {}

  static String times(int n, String text) { return text.repeat(n); }

  /** Blanks fill up the last twenty bytes. */
  static void put(SnakeRow x, String text) {
    for (int i = 0; i < text.length(); i += 20) {
      x.feed(four(text, i), four(text, i + 4), four(text, i + 8), four(text, i + 12), four(text, i + 16));
    }
  }

  private static int four(String text, int at) {
    int all = 0;
    for (int i = at; i < at + 4; i++) all = all << 8 | (i < text.length() ? text.charAt(i) : BLANK);
    return all;
  }

  static int led(SnakeRow x, int i) {
    try {
      return x.led(i);
    } catch (NoSuchElementException none) {
      return THROWN;
    }
  }
}
