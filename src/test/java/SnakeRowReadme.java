/** The calls that README.md shows, with the answers that it tells: who changes one changes the other. */
public final class SnakeRowReadme {
  private static int wrong = 0;

  private static final String TEXT = "hall wide 5 high 3 law through joins end; row fffff; row fwsff; row fffff; "
      + "band 0,0 sound 2; home 4,2; steps 1,1,0; leads ahead; "
      + "table t at 2,0 sits 2 aunt legs 2 grip 5 eager 100; "
      + "dancer plain legs 2 grip 1; dancer child legs 2 grip 1; dancer heavy legs 2 grip 1; "
      + "snake 2,2 east; frame 4 0 at 4,1";

  public static void main(String[] args) {
    SnakeRow snake = new SnakeRow();
    beforeAnyHall(snake);
    reading(snake);
    asking(snake);
    refusing(snake);
    readingAgain(snake);
    System.out.println(wrong == 0 ? "all is as README.md tells" : wrong + " answers are not as README.md tells");
    if (wrong != 0) System.exit(1);
  }

  private static void due(String call, long got, long want) {
    if (got == want) return;
    wrong++;
    System.out.println(call + " answered " + got + ", README.md tells " + want);
  }

  private static void due(String call, boolean got, boolean want) { due(call, got ? 1 : 0, want ? 1 : 0); }

  private static void trouble(SnakeRow snake, int want) { due("trouble()", snake.trouble(), want); }

  /** As it stands in README.md. */
  static void put(SnakeRow snake, String text) {
    int[] word = new int[5];
    for (int i = 0; i < text.length(); i += 20) {
      for (int k = 0; k < 20; k++) {
        char letter = i + k < text.length() ? text.charAt(i + k) : ' ';
        word[k / 4] = word[k / 4] << 8 | letter;
      }
      snake.feed(word[0], word[1], word[2], word[3], word[4]);
    }
  }

  private static void beforeAnyHall(SnakeRow snake) {
    due("dance(1) without a hall", snake.dance(1), SnakeRow.NONE);
    trouble(snake, 1);
    due("lead(1) without a hall", snake.lead(1), false);
    trouble(snake, 1);
    due("led(0) without a hall", Texts.led(snake, 0), Texts.THROWN);
  }

  private static void reading(SnakeRow snake) {
    put(snake, TEXT);
    due("size(15)", snake.size(15), 300);
    due("hall(n)", snake.hall(TEXT.length()), 3);
    trouble(snake, 0);
    due("size(15) behind hall", snake.size(15), 0);
  }

  private static void asking(SnakeRow snake) {
    due("stands(2, 2)", snake.stands(2, 2), 0);
    due("manyIn(7)", snake.manyIn(7), 4);
    due("at(0, 4)", snake.at(0, 4), 9);
    due("torn(8)", snake.torn(8), 7);
    due("torn(7)", snake.torn(7), -2);
    due("fits()", snake.fits(), 3);
    due("dance(4)", snake.dance(4), 3);
    due("dancer(0, 1) behind dance", snake.dancer(0, 1), 9);
    due("undo()", snake.undo(), true);
    due("dancer(0, 1) behind undo", snake.dancer(0, 1), 12);
  }

  private static void refusing(SnakeRow snake) {
    due("manyIn(41)", snake.manyIn(41), SnakeRow.NONE);
    trouble(snake, 2);
    due("lead(0)", snake.lead(0), false);
    trouble(snake, 5);
    due("band(1, 1)", snake.band(1, 1), false);
    trouble(snake, 1);
    // these leave TROUBLE as it was
    due("size(16)", snake.size(16), SnakeRow.NONE);
    due("led(0)", Texts.led(snake, 0), Texts.THROWN);
    due("where()", snake.where(), SnakeRow.NONE);
    due("fault()", snake.fault(), 0);
    trouble(snake, 1);
  }

  private static void readingAgain(SnakeRow snake) {
    put(snake, "hall wide 2");
    due("hall(11)", snake.hall(11), SnakeRow.NONE);
    trouble(snake, 4);
    due("fault()", snake.fault(), 4);
    due("where()", snake.where(), 10);
    due("size(15) behind the fault", snake.size(15), 0);
    due("many(), as the hall stays", snake.many(), 3);
    // a new line is no blank
    put(snake, "hall\nwide 3");
    due("hall(11) with a new line", snake.hall(11), SnakeRow.NONE);
    due("fault()", snake.fault(), 1);
    due("where()", snake.where(), 4);
    tapeFull(snake);
  }

  private static void tapeFull(SnakeRow snake) {
    for (int i = 1; i <= 45; i++) due("feed", snake.feed(0, 0, 0, 0, 0), 20 * i);
    due("many()", snake.many(), 3);
    due("feed on a full tape", snake.feed(0, 0, 0, 0, 0), SnakeRow.NONE);
    trouble(snake, 0);
  }
}
