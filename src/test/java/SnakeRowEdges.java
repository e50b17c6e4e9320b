import java.util.Arrays;

/**
 * Each sentence of the document that names a bound, told with it: the last value that is allowed and the first that
 * isn't, nothing there and no room left, where numbers wrap around. What is refused stands in SnakeRowRefusals.
 */
public final class SnakeRowEdges {
  private static int wrong = 0;
  private static String told = "";

  public static void main(String[] args) {
    bytesOfTheTape();
    tokens();
    wholesInBounds();
    linesInNumber();
    linesInOrder();
    cellsUnlike();
    namesUnlike();
    rowsOfLetters();
    theRowBehindTheFront();
    leastNumberOfOnePlace();
    theEnd();
    cellsInNumber();
    stepsRoundAndRound();
    wallsAndSides();
    whereOthersStand();
    ringAtOnce();
    hands();
    lots();
    lotsAtTheSides();
    homes();
    toldSides();
    legsAtCorners();
    upToTheOneAhead();
    gripAndTearing();
    auntsOnStairs();
    whoAsks();
    howManyAsk();
    whereOneJoins();
    draws();
    numbersOfDancers();
    longWay();
    cornersBetween();
    timesAhead();
    twelveBeats();
    jolted();
    held();
    ordered();
    allOrdered();
    bestLed();
    planned();
    meant();
    heard();
    wayOut();
    filmed();
    acted();
    undoneAndMarked();
    toldAtTheBounds();
    ledInOrder();
    System.out.println(wrong == 0 ? "all edges hold" : wrong + " answers at the edges are not as told");
    if (wrong != 0) System.exit(1);
  }

  // ---- what the tests share

  private static void says(String sentence) { told = sentence; }

  private static void due(String call, long got, long want) {
    if (got == want) return;
    wrong++;
    System.out.println("\"" + told + "\": " + call + " answered " + got + ", due is " + want);
  }

  private static void due(String call, boolean got) { due(call, got ? 1 : 0, 1); }

  private static SnakeRow sound(String text) {
    SnakeRow x = new SnakeRow();
    Texts.put(x, text);
    if (x.hall(text.length()) < 0) {
      wrong++;
      System.out.println("\"" + told + "\": refused by " + x.trouble() + ", " + x.fault() + " at " + x.where() + ": " + text);
    }
    return x;
  }

  /** A bar stands ahead of the place of the fault. */
  private static void fault(int number, String barred) {
    int place = barred.indexOf('|');
    String text = barred.substring(0, place) + barred.substring(place + 1);
    SnakeRow x = new SnakeRow();
    Texts.put(x, text);
    due("hall of " + barred, x.hall(text.length()), -1);
    due("trouble() of " + barred, x.trouble(), 4);
    due("fault() of " + barred, x.fault(), number);
    due("where() of " + barred, x.where(), place);
  }

  private static final String HEAD = "hall wide 3 high 2 law through joins end;row fff;row fff;";
  private static final String END = "steps 1;leads ahead;dancer plain legs 1 grip 9;snake 1,0 east";
  private static final String ONE = "dancer plain legs 1 grip 9;";
  private static final String FIRM = "dancer child legs 9 grip 9;";

  private static String room(int wide, int high, String law, String joins) {
    return "hall wide " + wide + " high " + high + " law " + law + " joins " + joins + ";" + Texts.times(high, "row " + Texts.times(wide, "f") + ";");
  }

  private static int after(int seed) { return (75 * seed + 74) % 65537; }

  // ---- I. the text

  private static void bytesOfTheTape() {
    says("THE TAPE has 900 bytes");
    SnakeRow x = new SnakeRow();
    due("nothing there", x.size(15), 0);
    for (int i = 1; i <= 45; i++) due("feed " + i, x.feed(0x20202020, 0x20202020, 0x20202020, 0x20202020, 0x20202020), 20 * i);
    due("feed 46", x.feed(0x20202020, 0x20202020, 0x20202020, 0x20202020, 0x20202020), -1);
    due("hall(900)", x.hall(900), -1);
    due("where() at the end of nine hundred blanks", x.where(), 900);
    // a text of nine hundred bytes, the last of which counts
    String text = HEAD + END + ";band 0,0 sound 1";
    text = text.substring(0, text.length() - 1) + Texts.times(900 - text.length(), " ") + "4";
    x = new SnakeRow();
    Texts.put(x, text);
    due("hall(900)", x.hall(900), 1);
    due("late(2,1)", x.late(2, 1), 0);
    due("late(0,0)", x.late(0, 0), 0);

    says("Twenty bytes come behind THE TAPE, of each number the highest first");
    String hundred = HEAD + END;
    for (int at = 0; at < 20; at++) {
      x = new SnakeRow();
      Texts.put(x, hundred.substring(0, at) + (char) 200 + hundred.substring(at + 1));
      x.hall(hundred.length());
      // a WORD that is cut short by it is no WORD that a HALL goes on with; in a blank's place it cuts none short
      int from = at;
      while (hundred.charAt(at) != ' ' && from > 0 && hundred.charAt(from - 1) != ' ') from--;
      due("where() with a strange byte at " + at, x.where(), from);
    }

    says("The first n bytes of THE TAPE (it is empty then) are the HALL from now on");
    x = new SnakeRow();
    Texts.put(x, hundred + ";band 9,9");
    due("hall, of the first bytes alone", x.hall(hundred.length()), 1);
    due("size(15)", x.size(15), 0);
    x = new SnakeRow();
    Texts.put(x, hundred);
    int all = x.size(15);
    due("hall of all", x.hall(all), 1);
    x = new SnakeRow();
    Texts.put(x, hundred);
    due("hall of one byte less", x.hall(hundred.length() - 1), -1);
    due("where()", x.where(), hundred.length() - 4);
  }

  private static void tokens() {
    says("blanks, 32, part TOKENS and mean nothing else");
    sound(HEAD.replace(" ", "  ").replace(";", " ; ").replace(",", " , ") + END.replace(";", "   ;   ").replace(",", "  ,  "));
    sound(" " + HEAD + END + " ");
    fault(1, "|ha ll wide 3");
    fault(1, "hall |wi de 3");
    fault(1, "|hallwide 3");
    fault(4, "hall wide |1 3");
    fault(1, "hall wide 3 |3 high 2");
    fault(1, "hall wide 3 high 2 law through joins end;row |;");
    for (int strange : new int[] {0, 9, 10, 13, 31, 33, 127, 128, 160, 255}) {
      fault(1, "|" + (char) strange + HEAD + END);
      fault(1, "hall|" + (char) strange + "wide 3");
      fault(1, HEAD + END + "|" + (char) strange);
    }
    says("WORDS of 1 to 8 small letters that stand together");
    sound(HEAD + "table a at 0,1 sits 1 plain legs 1 grip 1 eager 1;" + END);
    sound(HEAD + "table abcdefgh at 0,1 sits 1 plain legs 1 grip 1 eager 1;" + END);
    fault(1, HEAD + "table |abcdefghi at 0,1 sits 1");
    sound(HEAD + "table az at 0,1 sits 1 plain legs 1 grip 1 eager 1;" + END);
    for (int strange : new int[] {'a' - 1, 'z' + 1, 'A', 'Z', '_', '-', '.'}) {
      fault(1, HEAD + "table |" + (char) strange + " at 0,1");
      fault(1, "hall|" + (char) strange + " wide 3");
    }
    fault(1, "|Hall wide 3");
    says("WHOLES of 1 to 3 digits that do");
    sound("hall wide 3 high 02 law through joins end;row fff;row fff;" + END);
    sound("hall wide 003 high 2 law through joins end;row fff;row fff;" + END);
    fault(1, "hall wide |0003 high 2");
    fault(4, "hall wide |999 high 2");
    fault(1, "hall wide |1000 high 2");
    fault(1, "hall wide 3|" + (char) ('0' - 1) + " high");
    fault(1, "hall wide 3|" + (char) ('9' + 1) + " high");
    fault(1, "hall wide |-3 high");
    fault(1, "hall wide |+3 high");
    sound(HEAD + "band 0,0 sound 9;" + END);
    says("single ones of ; ,");
    sound("hall wide 3high 2law through joins end;row fff;row fff;" + END);
    fault(1, HEAD + "|;" + END);
    fault(1, HEAD + "band 0|;0");
    fault(1, HEAD + "band 0,|,0");
    fault(1, HEAD + "band 0|.0");
    fault(1, HEAD + "band 0,0 sound 1|,");
    fault(1, HEAD + END + "|,");
  }

  /** The least and the most are taken, what is beyond either is a FAULT at its place. */
  private static void bounds(String ahead, int least, int most, String behind) {
    sound(ahead + least + behind);
    sound(ahead + most + behind);
    sound(ahead + (least < 10 ? "00" : "0") + least + behind);
    if (least > 0) fault(4, ahead + "|" + (least - 1) + behind);
    fault(4, ahead + "|" + (most + 1) + behind);
    fault(4, ahead + "|" + (256 + least) + behind);
    fault(4, ahead + "|999" + behind);
    fault(1, ahead + "|000" + least + behind);
    if (!behind.matches(" \\d.*")) fault(1, ahead + "|" + behind.trim());
    fault(1, ahead + "|x" + behind);
  }

  private static void wholesInBounds() {
    says("hall wide WHOLE high WHOLE (3 .. 8, 2 .. 6)");
    for (int wide : new int[] {3, 4, 7, 8}) due("size(0)", sound(room(wide, 2, "through", "end") + END).size(0), wide);
    for (int high : new int[] {2, 3, 5, 6}) due("size(1)", sound(room(3, high, "through", "end") + END).size(1), high);
    sound(room(8, 6, "round", "behind") + END);
    for (int wide : new int[] {0, 1, 2, 9, 10, 259, 999}) fault(4, "hall wide |" + wide + " high 2");
    for (int high : new int[] {0, 1, 7, 8, 258, 999}) fault(4, "hall wide 3 high |" + high + " law");
    says("a CELL is x below wide, y below high");
    for (String line : new String[] {"band X,Y sound 1;", "home X,Y;", "table t at X,Y sits 1 plain legs 1 grip 1 eager 1;"}) {
      String text = HEAD.replace("wide 3 high 2", "wide 4 high 3").replace("row fff;row fff;", "row ffff;row ffff;row ffff;");
      String[] part = line.split("[XY]");
      bounds(text + part[0], 0, 3, ",1" + part[2] + END);
      bounds(text + part[0] + "3,", 0, 2, part[2] + END);
      sound(text + part[0] + "3,0" + part[2] + END);
    }
    bounds(room(4, 3, "through", "end") + ONE + "steps 1;leads ahead;snake ", 0, 3, ",1 north");
    bounds(room(4, 3, "through", "end") + ONE + "steps 1;leads ahead;snake 3,", 0, 2, " north");
    bounds(room(4, 3, "through", "end") + END + ";frame 0 0 at ", 0, 3, ",2");
    bounds(room(4, 3, "through", "end") + END + ";frame 0 0 at 3,", 0, 2, "");
    says("band, sound 1 .. 9");
    bounds(HEAD + END + ";band 2,1 sound ", 1, 9, "");
    says("steps, 0 .. 3");
    bounds(HEAD + ONE + "leads ahead;snake 1,0 east;steps ", 0, 3, "");
    bounds(HEAD + ONE + "leads ahead;snake 1,0 east;steps 1,", 0, 3, ",2");
    bounds(HEAD + ONE + "leads ahead;snake 1,0 east;steps 0,0,0,0,0,0,0,", 0, 3, "");
    says("table, sits 1 .. 9, legs 1 .. 9, grip 0 .. 9, eager 0 .. 100");
    bounds(HEAD + "table t at 0,1 sits ", 1, 9, " heavy legs 2 grip 2 eager 2;" + END);
    bounds(HEAD + "table t at 0,1 sits 2 child legs ", 1, 9, " grip 2 eager 2;" + END);
    bounds(HEAD + "table t at 0,1 sits 2 aunt legs 2 grip ", 0, 9, " eager 2;" + END);
    bounds(HEAD + "table t at 0,1 sits 2 plain legs 2 grip 2 eager ", 0, 100, ";" + END);
    says("dancer, legs 1 .. 9, grip 0 .. 9");
    bounds(HEAD + END.substring(0, END.indexOf("dancer")) + "dancer aunt legs ", 1, 9, " grip 3;snake 1,0 east");
    bounds(HEAD + END.substring(0, END.indexOf("dancer")) + "dancer heavy legs 3 grip ", 0, 9, ";snake 1,0 east");
    says("frame, a beat 0 .. 40");
    bounds(HEAD + END + ";frame ", 0, 40, " 0 at 1,0");
    says("of a frame: no dancer told ahead");
    bounds(HEAD + END + ";frame 3 ", 0, 0, " at 1,0");
    fault(4, HEAD + "frame 3 |0 at 1,0;" + END);
    fault(4, HEAD + ONE + "frame 3 |1 at 1,0;" + END);
    sound(HEAD + ONE + "frame 3 0 at 1,0;" + END);
    sound(HEAD + ONE + "dancer plain legs 1 grip 1;frame 3 1 at 1,0;steps 1;leads ahead;snake 1,0 east");
    fault(4, room(8, 2, "through", "end") + Texts.times(8, ONE) + "frame 3 |8 at 1,0");
    sound(room(8, 2, "through", "end") + Texts.times(8, ONE) + "frame 3 7 at 1,0;steps 1;leads ahead;snake 7,0 east");
  }

  private static final String[] TABLES = {"table a at 0,0 sits 1 plain legs 1 grip 1 eager 1;", "table b at 1,0 sits 1 plain legs 1 grip 1 eager 1;",
      "table c at 2,0 sits 1 plain legs 1 grip 1 eager 1;", "table d at 0,1 sits 1 plain legs 1 grip 1 eager 1;"};

  private static void linesInNumber() {
    says("row, as many LINES as high");
    for (int high : new int[] {2, 6}) {
      String head = "hall wide 3 high " + high + " law through joins end;";
      sound(head + Texts.times(high, "row fff;") + END);
      fault(5, head + Texts.times(high, "row fff;") + "|row fff;" + END);
      fault(6, head + Texts.times(high - 1, "row fff;") + ONE + "steps 1;leads ahead;|snake 1,0 east");
      fault(6, head + Texts.times(high - 1, "row fff;") + ONE + "steps 1;leads ahead|");
    }
    says("table, up to 4");
    String four = TABLES[0] + TABLES[1] + TABLES[2] + TABLES[3];
    due("size(4)", sound(HEAD + END).size(4), 0);
    due("size(4)", sound(HEAD + four + END.replace("1,0", "1,1")).size(4), 4);
    fault(5, HEAD + four + "|table e at 1,1 sits 1 plain legs 1 grip 1 eager 1;" + END);
    fault(5, HEAD + four + "|table");
    says("dancer, up to 8");
    String wide = room(8, 2, "through", "end") + "steps 1;leads ahead;";
    due("many()", sound(wide + Texts.times(8, ONE) + "snake 7,0 east").many(), 8);
    due("many()", sound(wide + ONE + "snake 7,0 east").many(), 1);
    fault(5, wide + Texts.times(8, ONE) + "|" + ONE);
    says("frame, up to 8");
    due("size(6)", sound(HEAD + END).size(6), 0);
    due("size(6)", sound(HEAD + END + Texts.times(8, ";frame 0 0 at 1,0")).size(6), 8);
    fault(5, HEAD + END + Texts.times(8, ";frame 0 0 at 1,0") + ";|frame 0 0 at 1,0");
    says("steps, up to 8; a ninth of steps: at it");
    due("size(5)", sound(HEAD + END).size(5), 1);
    due("size(5)", sound(HEAD + END.replace("steps 1", "steps 0,1,2,3,3,2,1,0")).size(5), 8);
    fault(5, HEAD + "steps 0,1,2,3,3,2,1,0,|0;leads ahead");
    fault(1, HEAD + "steps 0,1,2,3,3,2,1,0,|;leads ahead");
    fault(1, HEAD + "steps |;leads ahead");
    says("leads told SIDE {, SIDE}, up to 12; a thirteenth SIDE: at it");
    for (int n : new int[] {1, 11, 12}) {
      sound(HEAD + END.replace("leads ahead", "leads told north" + Texts.times(n - 1, ",south")));
    }
    fault(5, HEAD + "leads told north" + Texts.times(11, ",south") + ",|east;steps 1");
    fault(1, HEAD + "leads told north" + Texts.times(11, ",south") + ",|ahead;steps 1");
    fault(1, HEAD + "leads told |;steps 1");
    says("3 a second hall, band, home, steps, leads, snake: at that WORD");
    fault(3, HEAD + END + ";|hall wide 3 high 2 law through joins end");
    fault(3, HEAD + "band 0,0 sound 1;" + END + ";|band 1,1 sound 2");
    fault(3, HEAD + "home 0,0;" + END + ";|home 1,1");
    fault(3, HEAD + END + ";|steps 1");
    fault(3, HEAD + END + ";|leads left");
    fault(3, HEAD + END + ";|snake 2,0 east");
    fault(3, "hall wide 3 high 2 law through joins end;|hall");
  }

  private static void linesInOrder() {
    says("6 any LINE ahead of the hall; at its WORD");
    for (String line : "row band home steps leads table dancer snake frame".split(" ")) {
      fault(6, "|" + line + " fff;" + HEAD + END);
      fault(6, "   |" + line);
    }
    fault(1, "|wide 3");
    fault(1, "|fff;" + HEAD);
    says("a table ahead of the last row, a snake ahead of it, or without a dancer");
    String head = "hall wide 3 high 2 law through joins end;row fff;";
    fault(6, head + "|table a at 0,0");
    fault(6, "hall wide 3 high 2 law through joins end;|table a at 0,0");
    fault(6, head + ONE + "|snake 1,0 east;row fff");
    fault(6, HEAD + "|snake 1,0 east;" + ONE);
    fault(6, "hall wide 3 high 2 law through joins end;|snake 1,0 east");
    // any others come ahead of the rows as well as behind the snake
    sound("hall wide 3 high 2 law through joins end;band 2,1 sound 1;home 2,1;" + ONE + "frame 0 0 at 0,0;steps 1;leads ahead;row fff;row fff;"
        + "snake 1,0 east");
    sound("hall wide 3 high 2 law through joins end;row fff;" + ONE + "row fff;snake 1,0 east;frame 0 0 at 0,0;steps 1;leads ahead;"
        + "band 2,1 sound 1;home 2,1");
    says("row, table, dancer behind the snake: at that WORD");
    fault(6, HEAD + END + ";|table a at 0,1 sits 1");
    fault(6, HEAD + END + ";|dancer plain legs 1 grip 1");
    says("at the end: steps, leads, a snake");
    fault(6, HEAD + ONE + "leads ahead;snake 1,0 east|");
    fault(6, HEAD + ONE + "steps 1;snake 1,0 east|");
    fault(6, HEAD + ONE + "steps 1;leads ahead|");
    fault(6, HEAD + "steps 1;leads ahead|");
    fault(6, "hall wide 3 high 2 law through joins end|");
    fault(6, "hall wide 3 high 2 law through joins end     |");
  }

  private static void cellsUnlike() {
    says("unlike CELLS; a CELL of a table again: at its second WHOLE");
    fault(3, HEAD + TABLES[0] + "table e at 0,|0 sits 1 plain legs 1 grip 1 eager 1;" + END);
    fault(3, HEAD + TABLES[1] + TABLES[2] + TABLES[3] + "table e at 0,|1 sits 99");
    sound(HEAD + TABLES[0] + TABLES[3] + END.replace("1,0", "1,1"));
    sound(HEAD + TABLES[0] + TABLES[2] + END);
    says("no wall; a table, the front on a wall (the front on a table, too): at the second WHOLE");
    String walled = "hall wide 3 high 2 law through joins end;row wfs;row ffw;";
    fault(7, walled + "table e at 0,|0 sits 1");
    fault(7, walled + "table e at 2,|1 sits 99");
    sound(walled + "table e at 2,0 sits 1 plain legs 1 grip 1 eager 1;" + END);
    sound(walled + "table e at 0,1 sits 1 plain legs 1 grip 1 eager 1;" + END);
    fault(7, walled + ONE + "snake 0,|0 east");
    fault(7, walled + ONE + "snake 2,|1 nowhere");
    fault(7, HEAD + TABLES[1] + ONE + "snake 1,|0 east");
    sound(walled + "steps 1;leads ahead;" + ONE + "snake 2,0 east");
    // a band, a home, a frame may be told on a wall or on a table
    sound(walled + "band 0,0 sound 1;home 2,1;" + END + ";frame 0 0 at 0,0");
    sound(HEAD + TABLES[0] + "band 0,0 sound 1;home 0,0;" + END + ";frame 0 0 at 0,0");
  }

  private static void namesUnlike() {
    says("NAMES are WORDS but hall, row, band, home, steps, leads, table, dancer, snake, frame");
    String rest = " at 0,1 sits 1 plain legs 1 grip 1 eager 1;";
    for (String name : "hall row band home steps leads table dancer snake frame".split(" ")) fault(1, HEAD + "table |" + name + rest + END);
    for (String name : "halls rows ban homes step lead tables dance snakes frames wide high law at sits eager told north plain a".split(" ")) {
      sound(HEAD + "table " + name + rest + END);
    }
    fault(1, HEAD + "table |7" + rest + END);
    fault(1, HEAD + "table |,");
    fault(1, HEAD + "table|");
    says("each told once; 3 a NAME told again; at it");
    String[] place = {"0,1", "1,1", "2,1", "2,0"};
    for (int again = 0; again < 3; again++) {
      StringBuilder text = new StringBuilder(HEAD);
      for (int i = 0; i < 3; i++) text.append("table ").append("xyz".charAt(i)).append(" at ").append(place[i]).append(rest.substring(7));
      fault(3, text + "table |" + "xyz".charAt(again) + " at 2,0 sits 1");
      sound(text + "table x" + "xyz".charAt(again) + " at 2,0" + rest.substring(7) + END);
    }
    fault(3, HEAD + "table abcdefgh at 0,1" + rest.substring(7) + "table |abcdefgh at 9,9");
    sound(HEAD + "table abcdefgh at 0,1" + rest.substring(7) + "table abcdefgi at 1,1" + rest.substring(7) + "table bbcdefgh at 2,1" + rest.substring(7)
        + "table abcdefg at 2,0" + rest.substring(7) + END);
  }

  private static void rowsOfLetters() {
    says("7 a ROW of other letters, or of more or fewer than wide; at it");
    for (int wide : new int[] {3, 8}) {
      String head = "hall wide " + wide + " high 2 law through joins end;";
      sound(head + "row " + Texts.times(wide, "f") + ";row " + Texts.times(wide, "s") + ";" + END);
      sound(head + "row " + Texts.times(wide, "f") + ";row " + Texts.times(wide, "w") + ";" + END);
      fault(7, head + "row |" + Texts.times(wide - 1, "f") + ";");
      if (wide < 8) fault(7, head + "row |" + Texts.times(wide + 1, "f") + ";");
      for (String other : "a e g r t v x z".split(" ")) {
        fault(7, head + "row |" + other + Texts.times(wide - 1, "f"));
        fault(7, head + "row |" + Texts.times(wide - 1, "f") + other);
      }
    }
    fault(1, "hall wide 8 high 2 law through joins end;row |fffffffff;");
    fault(1, "hall wide 3 high 2 law through joins end;row |3;");
    fault(7, "hall wide 3 high 2 law through joins end;row fff;row |ff;");
    SnakeRow x = sound("hall wide 3 high 2 law through joins end;row fsw;row wsf;" + END.replace("1,0 east", "1,1 east"));
    int[] want = {0, 1, 2, 2, 1, 0};
    says("each f floor, s stairs, w wall; from above");
    for (int i = 0; i < 6; i++) due("cell " + i, x.cell(i % 3, i / 3), want[i]);
  }

  private static void theRowBehindTheFront() {
    says("a row that stands beyond, on a wall, a table: at the SIDE");
    String head = room(4, 4, "through", "end") + "steps 1;leads ahead;" + Texts.times(3, ONE);
    String[] side = {"north", "east", "south", "west"};
    int[][] last = {{1, 1}, {2, 1}, {1, 2}, {1, 1}}, first = {{1, 2}, {1, 1}, {1, 1}, {2, 1}};
    for (int i = 0; i < 4; i++) {
      sound(head + "snake " + last[i][0] + "," + last[i][1] + " " + side[i]);
      fault(7, head + "snake " + first[i][0] + "," + first[i][1] + " |" + side[i]);
    }
    for (String cell : "0,0 1,0".split(" ")) {
      fault(7, (head + "snake 2,0 |east").replace("row ffff;row ffff;row ffff;", (cell.equals("0,0") ? "row wfff;" : "row fwff;") + "row ffff;row ffff;"));
      fault(7, head + "table t at " + cell + " sits 1 plain legs 1 grip 1 eager 1;snake 2,0 |east");
    }
    sound((head + "snake 2,0 east").replace("row ffff;row ffff;row ffff;", "row ssfw;row wwww;row ffff;"));
    sound(room(4, 4, "through", "end") + "steps 1;leads ahead;" + ONE + "snake 0,0 east");
    says("the others in a row behind him, one CELL each");
    int[][] cells = {{5, 9, 13}, {6, 5, 4}, {9, 5, 1}, {5, 6, 7}};
    for (int i = 0; i < 4; i++) {
      SnakeRow x = sound(head + "snake " + last[i][0] + "," + last[i][1] + " " + side[i]);
      for (int k = 0; k < 3; k++) {
        due("dancer(" + k + ",1) by " + side[i], x.dancer(k, 1), cells[i][k]);
        due("dancer(" + k + ",0) by " + side[i], x.dancer(k, 0), k);
        due("dancer(" + k + ",3) by " + side[i], x.dancer(k, 3), 2 - k);
        due("way(" + k + ") by " + side[i], x.way(k), cells[i][2 - k]);
      }
      due("size(8)", x.size(8), i);
    }
  }

  private static void leastNumberOfOnePlace() {
    says("of one place the least number");
    String four = TABLES[0] + TABLES[1].replace("1,0", "2,1") + TABLES[2] + TABLES[3];
    fault(5, HEAD + four + ONE + "snake 1,0 north;|table");
    fault(5, room(8, 2, "through", "end") + Texts.times(8, ONE) + "snake 7,0 east;|dancer");
    fault(5, HEAD + END + ";|row");
    fault(4, HEAD + "steps 0,0,0,0,0,0,0,0,|4");
    fault(1, HEAD + "steps 0,0,0,0,0,0,0,0,|x");
    fault(4, HEAD + TABLES[0] + "table e at 0,|2");
    fault(3, HEAD + END + ";|snake");
    fault(1, HEAD + TABLES[0] + "table |row at 0,0");
    says("the first that is met from the left");
    fault(4, HEAD + "table e at |3,9");
    fault(7, HEAD.replace("row fff;", "row wff;") + "table e at 0,|0 sits 0");
    fault(7, HEAD + TABLES[0] + ONE + "snake 0,|0 above");
    fault(3, HEAD + TABLES[0] + "table |a at 0,0");
    fault(6, "|row wide 3;hall wide 9");
    fault(4, HEAD + "frame |41 9 at 9,9");
    fault(4, HEAD + "frame 40 |0 at 9,9");
  }

  private static void theEnd() {
    says("1 FORM (the end: its place)");
    String text = HEAD + "band 2,1 sound 1;home 2,1;" + TABLES[3] + END + ";frame 40 0 at 2,1";
    String plain = text;
    // cut behind each byte: what is cut short is told at the end, or at the TOKEN that is no more a WORD
    for (int n = 0; n < text.length(); n++) {
      SnakeRow x = new SnakeRow();
      Texts.put(x, plain);
      int got = x.hall(n);
      String cut = plain.substring(0, n);
      boolean whole = n >= (HEAD + "band 2,1 sound 1;home 2,1;" + TABLES[3] + END).length() && (cut.endsWith("east") || cut.endsWith(",2"));
      if (whole) {
        due("hall(" + n + ")", got, 1);
        continue;
      }
      due("hall(" + n + ")", got, -1);
      if (cut.endsWith(" ") || cut.endsWith(";") || cut.endsWith(",") || cut.isEmpty()) {
        due("fault() of the first " + n, x.fault(), 1);
        due("where() of the first " + n, x.where(), n);
      }
    }
    fault(1, HEAD + "table a at 0,0 sits 1 plain legs 1 grip 1|");
    fault(1, HEAD + "band 2,1   |");
    fault(1, HEAD + END + ";   |");
  }

  // ---- II. the way, a beat

  private static void cellsInNumber() {
    says("CELLS have numbers: wide times y and x");
    SnakeRow x = sound(room(8, 6, "through", "end") + "steps 1;leads ahead;" + ONE + "snake 7,5 east;home 7,5;band 0,5 sound 1");
    due("dancer(0,1)", x.dancer(0, 1), 47);
    due("stands(7,5)", x.stands(7, 5), 0);
    due("stands(0,0)", x.stands(0, 0), -2);
    due("size(12)", x.size(12), 47);
    due("size(11)", x.size(11), 40);
    due("late(7,5)", x.late(7, 5), 7);
    due("cell(7,5)", x.cell(7, 5), 0);
    says("GAP: -1: both have one place; the front has none");
    x = sound(HEAD + "table t at 0,0 sits 1 plain legs 1 grip 0 eager 100;steps 0;leads ahead;" + ONE + "snake 1,0 north");
    x.dance(1);
    due("dancer(0,2)", x.dancer(0, 2), -2);
    due("dancer(1,2)", x.dancer(1, 2), -1);
    due("widest(0)", x.widest(0), -1);
    due("stands(1,0)", x.stands(1, 0), 0);
  }

  private static void stepsRoundAndRound() {
    says("A BEAT (numbers from 0 on): the steps told, round and round");
    int[] steps = {1, 0, 2, 0, 3, 0, 0, 1};
    SnakeRow x = sound(room(8, 2, "through", "end") + "steps 1,0,2,0,3,0,0,1;leads ahead;" + ONE + "snake 0,0 east");
    int ran = 0;
    for (int beat = 0; beat < 20; beat++) {
      due("size(9)", x.size(9), beat);
      due("kicks() at " + beat, x.kicks(), steps[beat % 8] == 0 ? 1 : 0);
      due("ran(0," + beat + ")", sound(room(8, 2, "through", "end") + "steps 1,0,2,0,3,0,0,1;leads ahead;" + ONE + "snake 0,0 east").ran(0, beat), ran);
      x.dance(1);
      ran += steps[beat % 8];
      due("length()", x.length(), 1 + ran);
    }
    x = sound(HEAD + END.replace("steps 1", "steps 0"));
    due("kicks() by one step alone", x.kicks(), 1);
    x.dance(20);
    due("kicks() by one step alone", x.kicks(), 1);
    due("length()", x.length(), 1);
    says("(0: a KICK)");
    // the others go on in it
    x = sound(room(8, 2, "through", "end") + "steps 3,0,0;leads ahead;" + ONE + ONE + "snake 2,0 east");
    due("at(1,1)", x.at(1, 1), 2);
    due("at(1,2)", x.at(1, 2), 3);
    due("at(1,3)", x.at(1, 3), 4);
    due("at(0,3)", x.at(0, 3), 5);
  }

  private static void wallsAndSides() {
    says("to an OPEN one BESIDE him");
    String[] side = {"north", "east", "south", "west"};
    int[] start = {1, 8, 7, 3};
    // at the hall's sides the next number is no CELL BESIDE
    String text = room(3, 3, "through", "end") + "steps 1;" + ONE;
    int[] x0 = {1, 2, 1, 0}, y0 = {0, 1, 2, 1}, next = {4, 4, 4, 4};
    for (int i = 0; i < 4; i++) {
      SnakeRow x = sound(text + "leads told " + side[i] + ";snake " + x0[i] + "," + y0[i] + " north");
      due("told " + side[i] + " at the hall's side", x.at(0, 1), y0[i] * 3 + x0[i]);
      due("ran(0,1)", x.ran(0, 1), 0);
      x = sound(text + "leads told " + side[(i + 2) % 4] + ";snake " + x0[i] + "," + y0[i] + " north");
      due("told " + side[(i + 2) % 4], x.at(0, 1), next[i]);
      // a wall, a table aren't OPEN; floor, stairs are
      x = sound(text.replace("row fff;row fff;row fff;", "row sws;row wfw;row sws;") + "leads told " + side[i] + ";snake 1,1 north");
      due("told " + side[i] + " to a wall", x.at(0, 1), 4);
      int there = 4 + new int[] {-3, 1, 3, -1}[i];
      x = sound(text + "leads told " + side[i] + ";table t at " + there % 3 + "," + there / 3 + " sits 1 plain legs 1 grip 1 eager 0;snake 1,1 north");
      due("told " + side[i] + " to a table", x.at(0, 1), 4);
      x = sound(text.replace("row fff;row fff;row fff;", "row wsw;row sss;row wsw;") + "leads told " + side[i] + ";snake 1,1 north");
      due("told " + side[i] + " to stairs", x.at(0, 1), there);
    }
    says("If there is none such, he stays");
    for (String leader : "ahead right left lot home".split(" ")) {
      SnakeRow x = sound(text.replace("row fff;row fff;row fff;", "row fwf;row wfw;row fwf;") + "home 0,0;leads " + leader + ";snake 1,1 west");
      x.dance(20);
      due("length() by " + leader, x.length(), 1);
      due("size(8) by " + leader, x.size(8), 3);
      due("SEED by " + leader, x.size(10), 0);
    }
    // by law round the others shut him in
    for (int many = 2; many <= 4; many++) {
      for (String leader : "ahead right left lot home".split(" ")) {
        String alley = "hall wide 4 high 2 law LAW joins end;row ffff;row wwww;home 0,0;steps 3;leads " + leader + ";" + Texts.times(many, ONE) + "snake 3,0 east";
        SnakeRow x = sound(alley.replace("LAW", "round"));
        x.dance(20);
        due("length() of " + many + " by law round, by " + leader, x.length(), many);
        due("SEED of " + many + " by law round, by " + leader, x.size(10), 0);
        x = sound(alley.replace("LAW", "through"));
        due("ran(0,1) of " + many + " by law through, by " + leader, x.ran(0, 1), 3);
      }
    }
    says("He looks whither he went");
    for (int i = 0; i < 4; i++) {
      SnakeRow x = sound(text + "leads told " + side[i] + "," + side[i] + ";snake 1,1 " + side[(i + 1) % 4]);
      due("size(8) ahead of it", x.size(8), (i + 1) % 4);
      x.dance(1);
      due("size(8)", x.size(8), i);
      x.dance(1);
      due("size(8), he stays", x.size(8), i);
    }
  }

  private static final String LOOP = "steps 3;leads told south,west,west,north,east,east;";

  private static void whereOthersStand() {
    says("where nobody stands NOW (as he goes, the others still stand)");
    // the second one's CELL is shut though he will go on; the front's own is free again
    SnakeRow x = sound(room(4, 3, "round", "end") + "steps 3;leads told south,west,north;" + Texts.times(2, FIRM) + "snake 2,1 east");
    due("at(0,1)", x.at(0, 1), 9);
    due("ran(0,1)", x.ran(0, 1), 2);
    x = sound(room(4, 3, "round", "end") + "steps 2;leads told east,west;" + Texts.times(2, FIRM) + "snake 2,1 east");
    due("at(0,1)", x.at(0, 1), 6);
    due("ran(0,1)", x.ran(0, 1), 2);
    x = sound(room(4, 3, "round", "end") + "steps 2;leads told east,west,west;" + Texts.times(2, FIRM) + "snake 2,1 east");
    due("over()", x.ring(2), -2);
    // alone, nobody else stands anywhere
    x = sound(room(4, 3, "round", "end") + "steps 2;leads told east,west,west;" + FIRM + "snake 2,1 east");
    due("at(0,2)", x.at(0, 2), 5);
    says("by law through, wherever they stand");
    x = sound(room(4, 3, "through", "end") + "steps 3;leads told south,west,north;" + Texts.times(2, FIRM) + "snake 2,1 east");
    due("at(0,1)", x.at(0, 1), 5);
    x = sound(room(4, 3, "through", "end") + "steps 3;leads told west,west,west;" + Texts.times(3, FIRM) + "snake 2,1 east");
    due("at(0,1)", x.at(0, 1), 4);
    due("ring(1)", x.ring(1), -2);
    due("over()", x.dance(1) * 0 + x.over(), 0);
    says("by law round, where the last one stands, too, if there are three dancers or more: then it is a RING");
    x = sound(room(3, 2, "round", "end") + LOOP + Texts.times(3, ONE) + "snake 2,0 east");
    due("ring(1) of three", x.ring(1), -2);
    due("ring(2) of three", x.ring(2), 2);
    due("at(0,2)", x.at(0, 2), 1);
    due("at(2,2)", x.at(2, 2), 1);
    x = sound(room(3, 2, "round", "end") + LOOP + Texts.times(2, ONE) + "snake 2,0 east");
    due("ring(40) of two", x.ring(40), -2);
    due("at(0,2) of two: he stays where he is ahead of the second", x.at(0, 2), 1);
    due("ran(0,2) of two", x.ran(0, 2), 5);
    x = sound(room(4, 2, "round", "end") + "steps 3;leads told south,west,west,east,north;" + Texts.times(4, ONE) + "snake 3,0 east");
    due("ring(40) by one in the middle", x.ring(40), -2);
    due("at(0,2)", x.at(0, 2), 6);
    x = sound(room(4, 2, "round", "end") + "steps 3;leads told south,west,west,north;" + Texts.times(4, ONE) + "snake 3,0 east");
    due("ring(40) by the last of four", x.ring(40), 2);
    // the last one stands there, though another does so, too
    x = sound(room(3, 3, "round", "end") + "steps 0,3;leads told south,west,north;table t at 0,0 sits 1 plain legs 1 grip 9 eager 100;" + Texts.times(2, ONE)
        + "snake 1,1 east");
    due("ring(1)", x.ring(1), -2);
    due("ring(2)", x.ring(2), 2);
    due("at(0,2)", x.at(0, 2), 3);
    // two dancers become three, and three two
    x = sound(room(3, 2, "round", "end") + LOOP + Texts.times(3, ONE) + "snake 2,0 east");
    x.letGo(2);
    due("ring(40), one let go", x.ring(40), -2);
    x.undo();
    due("ring(40), undone", x.ring(40), 2);
  }

  private static void ringAtOnce() {
    says("then it is a RING, and the BEAT ends at once");
    SnakeRow x = sound("hall wide 3 high 3 law round joins end;row fff;row sff;row fff;steps 3;leads told south,west,west,north,east;"
        + "table t at 2,0 sits 2 aunt legs 1 grip 9 eager 100;dancer plain legs 1 grip 9;dancer plain legs 1 grip 2;" + ONE + "snake 2,1 east");
    due("manyIn(1)", x.manyIn(1), 4);
    due("at(3,1)", x.at(3, 1), 3);
    due("ring(2)", x.ring(2), 2);
    due("ran(0,2): the steps that are left are lost", x.ran(0, 2), 4);
    due("ran(1,2): none goes after", x.ran(1, 2), 1);
    due("torn(2): none is TORN", x.torn(2), -2);
    due("widest(2)", x.widest(2), 3);
    due("manyIn(2): no AUNT is out", x.manyIn(2), 4);
    due("joined(2): no table is asked", x.joined(2), 1);
    x.dance(2);
    due("SEED", x.size(10), 74);
    due("length()", x.length(), 7);
    due("over()", x.over(), 1);
    says("OVER: no more BEATS come to anything");
    due("size(9)", x.size(9), 2);
    due("manyIn(40)", x.manyIn(40), 4);
    due("ran(0,40)", x.ran(0, 40), 0);
    due("joined(40)", x.joined(40), 0);
    due("torn(40)", x.torn(40), -2);
    says("-2 (also if it is OVER NOW, by a RING, too)");
    due("ring(40)", x.ring(40), -2);
    due("ring(0)", x.ring(0), -2);
    due("jolt(4,1): the GAP NOW", x.jolt(4, 1), 3);
    due("jolt(1,2)", x.jolt(1, 2), x.dancer(2, 2));
    due("plan(5)", x.plan(5), 4);
    due("planAt(5,4)", x.planAt(5, 4), 0);
    due("leader(40)", x.leader(40), 0);
    due("mean(0,20,40)", x.mean(0, 20, 40), 80);
    due("holds()", x.holds(), 3);
    due("order()", x.order(), 0);
    // the other ACTS go on
    due("letGo(1)", x.letGo(1));
    due("change(1,2)", x.change(1, 2));
    due("lead(0)", x.lead(0));
    due("over()", x.over(), 1);
    for (int i = 0; i < 4; i++) due("undo()", x.undo());
    due("over()", x.over(), 0);
    due("size(9)", x.size(9), 0);
  }

  private static String walled(boolean north, boolean east, boolean south, boolean west) {
    return "hall wide 3 high 3 law through joins end;row f" + (north ? 'w' : 'f') + "f;row " + (west ? 'w' : 'f') + "f" + (east ? 'w' : 'f') + ";row f"
        + (south ? 'w' : 'f') + "f;";
  }

  private static void hands() {
    says("ahead: as he looks, else to his right, to his left, back; right: ..; left: ..; the first that can be");
    String[] side = {"north", "east", "south", "west"}, leader = {"ahead", "right", "left"};
    int[][] turns = {{0, 1, 3, 2}, {1, 0, 3, 2}, {3, 0, 1, 2}};
    int[] cell = {1, 5, 7, 3};
    for (int look = 0; look < 4; look++) {
      for (int by = 0; by < 3; by++) {
        for (int shut = 0; shut < 16; shut++) {
          int want = 4;
          for (int i = 3; i >= 0; i--) {
            int to = (look + turns[by][i]) % 4;
            if ((shut >> to & 1) == 0) want = cell[to];
          }
          SnakeRow x = sound(walled((shut & 1) != 0, (shut & 2) != 0, (shut & 4) != 0, (shut & 8) != 0) + "steps 1;leads " + leader[by] + ";" + ONE
              + "snake 1,1 " + side[look]);
          due(leader[by] + " looking " + side[look] + ", shut " + shut, x.at(0, 1), want);
        }
      }
    }
  }

  private static void lots() {
    says("lot: of those that can be (to the north, east, south, west) a DRAW mod how many");
    int[] cell = {1, 5, 7, 3};
    for (int shut = 0; shut < 16; shut++) {
      for (int seed : new int[] {0, 1, 2, 3, 872, 873, 65535, 65536}) {
        int many = 4 - Integer.bitCount(shut), want = 4, left = many == 0 ? 0 : after(seed) % many;
        for (int i = 0; i < 4 && many > 0; i++) {
          if ((shut >> i & 1) != 0) continue;
          if (left-- == 0) want = cell[i];
        }
        SnakeRow x = sound(walled((shut & 1) != 0, (shut & 2) != 0, (shut & 4) != 0, (shut & 8) != 0) + "steps 1;leads lot;" + ONE + "snake 1,1 north");
        x.seed(seed);
        x.dance(1);
        due("lot from " + seed + ", shut " + shut, x.dancer(0, 1), want);
        due("SEED from " + seed + ", shut " + shut, x.size(10), many == 0 ? seed : after(seed));
      }
    }
  }

  private static void lotsAtTheSides() {
    says("lot: of those that can be, at each CELL of a hall, the first and the last too");
    int[] by = {-3, 1, 3, -1};
    for (int at = 0; at < 6; at++) {
      for (int seed : new int[] {0, 1, 2, 3, 65536}) {
        boolean[] can = {at > 2, at % 3 < 2, at < 3, at % 3 > 0};
        int many = 0, want = at;
        for (boolean c : can) many += c ? 1 : 0;
        int left = after(seed) % many;
        for (int i = 0; i < 4; i++) {
          if (can[i] && left-- == 0) want = at + by[i];
        }
        SnakeRow x = sound(room(3, 2, "through", "end") + "steps 1;leads lot;" + ONE + "snake " + at % 3 + "," + at / 3 + " north");
        x.seed(seed);
        due("lot at " + at + " from " + seed, x.at(0, 1), want);
      }
    }
  }

  private static void homes() {
    says("home: by which the way to home is shortest, the first to the north, east, south, west");
    String text = room(3, 3, "through", "end") + "steps 1;leads home;" + ONE;
    int[] want = {1, 1, 1, 3, 4, 5, 7, 7, 5};
    for (int home = 0; home < 9; home++) {
      due("home " + home, sound(text + "home " + home % 3 + "," + home / 3 + ";snake 1,1 west").at(0, 1), want[home]);
    }
    says("if home can be come to, and he isn't there");
    SnakeRow x = sound(text + "home 1,1;snake 1,1 west");
    x.dance(20);
    due("length() at home", x.length(), 1);
    due("size(8) at home", x.size(8), 3);
    due("no home told", sound(text + "snake 1,1 west").at(0, 9), 4);
    due("home is shut in", sound(text.replace("row fff;row fff;row fff;", "row fwf;row wff;row fff;") + "home 0,0;snake 1,1 west").at(0, 9), 4);
    due("home is a wall", sound(text.replace("row fff;row fff;row fff;", "row wff;row fff;row fff;") + "home 0,0;snake 1,1 west").at(0, 9), 4);
    due("home is a table", sound(text + "home 0,0;table t at 0,0 sits 1 plain legs 1 grip 1 eager 0;snake 1,1 west").at(0, 9), 4);
    due("he comes home and stays", sound(text + "home 2,2;snake 0,0 west").at(0, 40), 8);
    due("ran(0,40)", sound(text + "home 2,2;snake 0,0 west").ran(0, 40), 4);
    due("three steps, home behind two", sound(text.replace("steps 1", "steps 3") + "home 2,0;snake 0,0 west").ran(0, 1), 2);
    says("over OPEN CELLS (without regard to dancers)");
    // round the wall it is longer; the second one is no wall
    due("round a wall", sound(text.replace("row fff;row fff;row fff;", "row fff;row fwf;row fff;") + "home 2,1;snake 0,1 west").at(0, 1), 0);
    x = sound(room(3, 3, "through", "end") + "steps 1;leads home;" + ONE + ONE + "home 2,1;snake 0,1 west");
    due("through the second", x.at(0, 1), 4);
  }

  private static void toldSides() {
    says("told: the next SIDE, if it can be, else he stays (the SIDE is gone, too); none are left: he stays");
    SnakeRow x = sound(room(3, 3, "through", "end") + "steps 1;leads told north,north,west,west,south,south,south,east,east,east,north,west;" + ONE
        + "snake 1,1 north");
    int[] want = {4, 1, 1, 0, 0, 3, 6, 6, 7, 8, 8, 5, 4, 4, 4, 4};
    for (int t = 0; t < want.length; t++) due("at(0," + t + ")", x.at(0, t), want[t]);
    due("at(0,40)", x.at(0, 40), 4);
    x.dance(11);
    due("at(0,1)", x.at(0, 1), 4);
    due("ran(0,9)", x.ran(0, 9), 1);
    x.dance(1);
    due("ran(0,9), all gone", x.ran(0, 9), 0);
    says("one by one, as the LEADER tells");
    x = sound(room(3, 3, "through", "end") + "steps 3;leads told north,north,west,south,south;" + ONE + "snake 1,1 north");
    due("at(0,1)", x.at(0, 1), 0);
    due("ran(0,1)", x.ran(0, 1), 2);
    due("at(0,2)", x.at(0, 2), 6);
    due("ran(0,2)", x.ran(0, 2), 4);
    // another LEADER leaves the SIDES alone, and undoing brings back what is gone
    x.lead(0);
    due("at(0,1) by another", x.at(0, 1), 5);
    x.undo();
    due("at(0,1)", x.at(0, 1), 0);
    x.dance(1);
    x.undo();
    due("at(0,1)", x.at(0, 1), 0);
  }

  private static void legsAtCorners() {
    says("a CELL takes 1; from a CELL at which the WAY turns the next one takes 2, of a child 1, of heavy ones 3");
    String[] kind = {"plain", "aunt", "child", "heavy"};
    int[] cost = {2, 2, 1, 3};
    String[] told = {"east,south,south", "east,west,west"};
    int[][] way = {{0, 1, 2, 5, 8}, {0, 1, 2, 1, 0}};
    for (int k = 0; k < 4; k++) {
      for (int legs = 1; legs <= 9; legs++) {
        for (int w = 0; w < 2; w++) {
          SnakeRow x = sound(room(3, 3, "through", "end") + "steps 3,0,0,0;leads told " + told[w] + ";" + ONE + "dancer " + kind[k] + " legs " + legs
              + " grip 9;snake 1,0 east");
          int place = 0;
          for (int t = 1; t <= 4; t++) {
            int left = legs;
            while (place < 3 && left >= (place == 2 ? cost[k] : 1)) {
              left -= place == 2 ? cost[k] : 1;
              place++;
            }
            due("at(1," + t + ") of " + kind[k] + ", legs " + legs + ", by " + told[w], x.at(1, t), way[w][place]);
            due("ran(1," + t + ") of " + kind[k] + ", legs " + legs + ", by " + told[w], x.ran(1, t), place);
          }
        }
      }
    }
    // at the WAY's beginning there is no SIDE that it comes by
    SnakeRow x = sound(room(3, 3, "through", "end") + "steps 2;leads told south,south;" + ONE + "dancer heavy legs 3 grip 9;snake 1,0 east");
    due("at(1,1)", x.at(1, 1), 1);
    x = sound(room(3, 3, "through", "end") + "steps 2;leads told south,south;" + ONE + "dancer heavy legs 4 grip 9;snake 1,0 east");
    due("at(1,1)", x.at(1, 1), 4);
    // the front goes as many CELLS as are told, whatever his legs
    x = sound(room(3, 3, "through", "end") + "steps 3;leads told east,south,south;dancer heavy legs 1 grip 0;snake 1,0 east");
    due("ran(0,1)", x.ran(0, 1), 3);
  }

  private static void upToTheOneAhead() {
    says("he goes on along the WAY, up to the place behind the one ahead (as that one is then)");
    SnakeRow x = sound(room(8, 2, "through", "end") + "steps 3,0;leads ahead;" + FIRM + "dancer child legs 2 grip 9;dancer child legs 9 grip 9;snake 2,0 east");
    due("at(1,1)", x.at(1, 1), 3);
    due("at(2,1)", x.at(2, 1), 2);
    due("at(1,2)", x.at(1, 2), 4);
    due("at(2,2)", x.at(2, 2), 3);
    due("ran(2,2)", x.ran(2, 2), 3);
    due("widest(1)", x.widest(1), 1);
    due("widest(2)", x.widest(2), 0);
    // who has the place of the one ahead of him stays, till that one is two ahead
    x = sound(room(8, 2, "through", "end") + "steps 0,1;leads ahead;table t at 0,1 sits 1 child legs 9 grip 9 eager 100;" + FIRM + "snake 0,0 east");
    due("at(1,1)", x.at(1, 1), 0);
    due("ran(1,2)", x.ran(1, 2), 0);
    due("ran(1,4)", x.ran(1, 4), 1);
    due("at(1,4)", x.at(1, 4), 1);
  }

  private static void gripAndTearing() {
    says("TORN: the first, from the front, whose GAP is above his grip: he and all behind him are out");
    for (int grip = 0; grip <= 9; grip++) {
      // his GAP is 1 more behind each BEAT
      SnakeRow x = sound(room(8, 2, "through", "end") + "steps 2;leads ahead;" + FIRM + "dancer child legs 1 grip " + grip + ";" + FIRM + "snake 2,0 east");
      due("torn(" + grip + ")", x.torn(grip), -2);
      due("torn(" + (grip + 1) + ")", x.torn(grip + 1), grip);
      due("tornBy(" + (grip + 1) + ")", x.tornBy(grip + 1), 1);
      due("manyIn(" + grip + ")", x.manyIn(grip), 3);
      due("manyIn(" + (grip + 1) + ")", x.manyIn(grip + 1), 1);
      due("widest(" + grip + ")", x.widest(grip), grip);
      due("widest(" + (grip + 1) + ")", x.widest(grip + 1), -2);
      due("at(2," + (grip + 1) + ")", x.at(2, grip + 1), -2);
      due("at(1," + (grip + 1) + ")", x.at(1, grip + 1), -2);
      due("ran(2," + (grip + 1) + ")", x.ran(2, grip + 1), 0);
      due("holds the first", x.tornBy(40), 1);
    }
    // the last one alone: those ahead of him stay
    SnakeRow x = sound(room(8, 2, "through", "end") + "steps 2;leads ahead;" + FIRM + FIRM + "dancer child legs 1 grip 0;snake 2,0 east");
    due("torn(1)", x.torn(1), 0);
    due("tornBy(1)", x.tornBy(1), 2);
    due("manyIn(1)", x.manyIn(1), 2);
    // two in one BEAT: it is the first from the front
    x = sound(room(8, 2, "through", "end") + "steps 3;leads ahead;" + FIRM + "dancer child legs 2 grip 0;dancer child legs 1 grip 0;snake 2,0 east");
    due("tornBy(1)", x.tornBy(1), 1);
    due("order()", x.order(), 2);
    // in two BEATS: it is the first BEAT
    x = sound(room(8, 2, "through", "end") + "steps 2,3;leads ahead;" + FIRM + "dancer child legs 2 grip 0;dancer child legs 1 grip 0;" + FIRM
        + "snake 3,0 east");
    due("manyIn(1)", x.manyIn(1), 2);
    due("manyIn(2)", x.manyIn(2), 1);
    due("torn(40), in two BEATS", x.torn(40), 0);
    due("tornBy(40), in two BEATS", x.tornBy(40), 2);
    says("the first BEAT from NOW on (0 ..) in which it is TORN");
    x = sound(room(8, 2, "through", "end") + "steps 2;leads ahead;" + FIRM + "dancer child legs 1 grip 9;dancer child legs 1 grip 9;snake 2,0 east");
    due("torn(40)", x.torn(40), 9);
    x.dance(9);
    due("torn(0)", x.torn(0), -2);
    due("torn(1)", x.torn(1), 0);
    x.dance(1);
    due("torn(40)", x.torn(40), -2);
    due("many()", x.many(), 1);
    // an ACT may leave a GAP above a grip: it tears in the next BEAT
    x = sound(room(8, 2, "through", "end") + "steps 0;leads ahead;" + FIRM + FIRM + "dancer heavy legs 1 grip 0;snake 2,0 east");
    x.letGo(1);
    due("dancer(1,2)", x.dancer(1, 2), 1);
    due("torn(1): he has come up", x.torn(1), -2);
  }

  private static void auntsOnStairs() {
    says("Then AUNTS (not the front) who stand on stairs are out");
    String hall = "hall wide 8 high 2 law through joins end;row sfssffff;row ffffffff;";
    SnakeRow x = sound(hall + "steps 0;leads ahead;dancer aunt legs 1 grip 0;dancer aunt legs 1 grip 9;dancer plain legs 1 grip 9;snake 3,0 east");
    due("manyIn(0)", x.manyIn(0), 3);
    due("manyIn(1)", x.manyIn(1), 2);
    due("at(0,1)", x.at(0, 1), 3);
    due("at(1,1)", x.at(1, 1), -2);
    due("at(2,1): one place behind is on floor", x.at(2, 1), 1);
    due("torn(1): that is not TORN", x.torn(1), -2);
    // two AUNTS one behind the other, and other KINDS on stairs
    x = sound("hall wide 8 high 2 law through joins end;row ssssssss;row ffffffff;steps 0;leads ahead;" + FIRM
        + "dancer aunt legs 1 grip 9;dancer aunt legs 1 grip 9;dancer plain legs 1 grip 9;dancer child legs 1 grip 9;dancer heavy legs 1 grip 9;"
        + "dancer aunt legs 1 grip 9;snake 6,0 east");
    due("manyIn(1)", x.manyIn(1), 4);
    x.dance(1);
    due("dancer(1,0)", x.dancer(1, 0), 3);
    due("dancer(1,2)", x.dancer(1, 2), 2);
    due("dancer(3,0)", x.dancer(3, 0), 5);
    due("torn(1)", x.torn(1), -2);
    // TORN comes first: who is torn off behind an AUNT is so by his own GAP alone
    x = sound("hall wide 8 high 2 law through joins end;row fffsffff;row ffffffff;steps 1;leads ahead;" + FIRM
        + "dancer aunt legs 1 grip 9;dancer plain legs 1 grip 0;snake 3,0 east");
    due("manyIn(1)", x.manyIn(1), 2);
    due("torn(1)", x.torn(1), -2);
    due("at(2,1)", x.at(2, 1), 2);
    due("torn(2): the GAP that she left", x.torn(2), 1);
    due("tornBy(2)", x.tornBy(2), 2);
    // and she may be torn herself
    x = sound("hall wide 8 high 2 law through joins end;row fffsffff;row ffffffff;steps 3;leads ahead;" + FIRM
        + "dancer aunt legs 1 grip 1;snake 3,0 east");
    due("torn(1)", x.torn(1), 0);
    due("order()", x.order(), 1);
  }

  private static void whoAsks() {
    says("if anybody sits there and someone stands BESIDE it");
    int[] cell = {1, 5, 7, 3, 0, 2, 6, 8};
    for (int i = 0; i < 8; i++) {
      SnakeRow x = sound(room(3, 3, "through", "end") + "steps 0;leads ahead;table t at 1,1 sits 1 plain legs 1 grip 1 eager 100;" + ONE
          + "snake " + cell[i] % 3 + "," + cell[i] / 3 + " north");
      due("joined(1) from " + cell[i], x.joined(1), i < 4 ? 1 : 0);
      x.dance(3);
      due("one sits, one joins", x.many(), i < 4 ? 2 : 1);
      due("sits(0)", x.sits(0), i < 4 ? 0 : 1);
      due("SEED: who doesn't ask draws not", x.size(10), i < 4 ? 74 : 0);
    }
    // at the hall's sides the next number isn't BESIDE
    SnakeRow x = sound(room(3, 3, "through", "end") + "steps 0;leads ahead;table t at 2,0 sits 1 plain legs 1 grip 1 eager 100;" + ONE + "snake 0,1 north");
    due("joined(1)", x.joined(1), 0);
    says("the first such, from the front, asks");
    String text = room(5, 3, "through", "behind") + "steps 0;leads ahead;table t at TT sits 1 plain legs 1 grip 1 eager 100;" + Texts.times(4, ONE) + "snake 3,1 east";
    for (int i = 0; i < 4; i++) {
      x = sound(text.replace("TT", (3 - i) + ",0"));
      x.dance(1);
      due("dancer(" + (i + 1) + ",0), asked by the " + i, x.dancer(i + 1, 0), 4);
    }
    x = sound(text.replace("TT", "3,0").replace("plain legs 1 grip 1 eager", "aunt legs 9 grip 8 eager"));
    x.dance(1);
    due("KIND of who joins", x.dancer(1, 4), 1);
    due("legs of who joins", x.dancer(1, 5), 9);
    due("grip of who joins", x.dancer(1, 6), 8);
    says("Then the tables by numbers");
    x = sound(room(3, 3, "through", "end") + "steps 0;leads ahead;table b at 2,1 sits 1 child legs 1 grip 1 eager 100;"
        + "table a at 0,1 sits 1 heavy legs 1 grip 1 eager 100;" + ONE + "snake 1,1 north");
    x.dance(1);
    due("dancer(1,4)", x.dancer(1, 4), 2);
    due("dancer(2,4)", x.dancer(2, 4), 3);
    due("SEED", x.size(10), after(after(0)));
    // who joined from one table may ask at the next
    x = sound(room(5, 2, "through", "end") + "steps 1;leads ahead;table a at 1,1 sits 1 plain legs 1 grip 9 eager 100;"
        + "table b at 0,1 sits 1 plain legs 1 grip 9 eager 100;" + ONE + "snake 0,0 east");
    due("joined(1)", x.joined(1), 2);
    x = sound(room(5, 2, "through", "end") + "steps 1;leads ahead;table a at 0,1 sits 1 plain legs 1 grip 9 eager 100;"
        + "table b at 1,1 sits 1 plain legs 1 grip 9 eager 100;" + ONE + "snake 0,0 east");
    due("joined(1), the other way round", x.joined(1), 1);
  }

  private static void howManyAsk() {
    says("and there are fewer than 16");
    String text = room(8, 3, "through", "end") + "steps 0;leads ahead;table a at 0,0 sits 9 plain legs 1 grip 9 eager 100;"
        + "table b at 1,0 sits 3 plain legs 1 grip 9 eager EE;" + Texts.times(8, ONE) + "snake 7,1 east";
    SnakeRow x = sound(text.replace("EE", "0"));
    for (int i = 1; i <= 9; i++) due("manyIn(" + i + ")", x.manyIn(i), Math.min(8 + i, 16));
    x.dance(7);
    due("fifteen", x.many(), 15);
    x.dance(1);
    due("sixteen", x.many(), 16);
    due("sits(0)", x.sits(0), 1);
    int seed = x.size(10);
    x.dance(1);
    due("none is asked by sixteen: no DRAW", x.size(10), seed);
    due("sits(0)", x.sits(0), 1);
    x.letGo(15);
    due("there is room again", x.joined(1), 1);
    // fifteen: the first table's one comes, the second's has no room
    x = sound(text.replace("EE", "100"));
    for (int i = 0; i < 3; i++) x.dance(1);
    due("many()", x.many(), 14);
    x.letGo(13);
    due("joined(1) into thirteen", x.joined(1), 1);
    due("sits(1)", x.sits(1), 0);
    x.undo();
    x.undo();
    due("many()", x.many(), 12);
    x = sound(text.replace("EE", "100").replace("sits 3", "sits 9"));
    for (int i = 0; i < 3; i++) x.dance(1);
    x.dance(1);
    due("many()", x.many(), 16);
    x.letGo(12);
    due("fifteen", x.many(), 15);
    x.dance(1);
    due("sits(0)", x.sits(0), 4);
    due("sits(1)", x.sits(1), 5);
    says("a DRAW mod 100 below eager");
    int low = -1, high = -1;
    for (int s = 0; s < 65537; s++) {
      if (after(s) % 100 == 0 && low < 0) low = s;
      if (after(s) % 100 == 99 && high < 0) high = s;
    }
    int[][] want = {{low, 0, 0}, {low, 1, 1}, {low, 100, 1}, {high, 99, 0}, {high, 100, 1}, {high, 0, 0}, {0, 74, 0}, {0, 75, 1}};
    for (int[] w : want) {
      x = sound(room(3, 3, "through", "end") + "steps 0;leads ahead;table t at 1,1 sits 1 plain legs 1 grip 1 eager " + w[1] + ";" + ONE + "snake 1,0 north");
      x.seed(w[0]);
      due("joined(1) of eager " + w[1] + " from " + w[0], x.joined(1), w[2]);
      x.dance(1);
      due("SEED", x.size(10), after(w[0]));
    }
  }

  private static void whereOneJoins() {
    says("at the end: one place behind the last one (not ahead of the WAY's beginning: else at his place)");
    String text = room(8, 2, "through", "end") + "steps 2,0;leads ahead;table t at 0,1 sits 3 child legs 1 grip 9 eager 100;" + ONE + "snake 0,0 east";
    SnakeRow x = sound(text.replace("steps 2,0", "steps 0"));
    x.dance(1);
    due("dancer(1,3) of a WAY of one CELL", x.dancer(1, 3), 0);
    due("length()", x.length(), 1);
    x = sound(text.replace("t at 0,1", "t at 1,1").replace("steps 2,0", "steps 1,0"));
    x.dance(1);
    due("dancer(1,3), one place behind", x.dancer(1, 3), 0);
    due("dancer(1,2)", x.dancer(1, 2), 0);
    x.dance(1);
    due("dancer(2,3), at the beginning", x.dancer(2, 3), 0);
    due("dancer(2,2)", x.dancer(2, 2), -1);
    x = sound(text.replace("t at 0,1", "t at 2,1"));
    x.dance(1);
    due("dancer(1,3), behind the last one, not at the beginning", x.dancer(1, 3), 1);
    says("behind: right behind who asked, at the place of the one who is there (if none is: as at the end)");
    text = room(8, 2, "through", "behind") + "steps 0;leads ahead;table t at TT sits 2 child legs 1 grip 9 eager 100;" + Texts.times(4, ONE) + "snake 4,0 east";
    int[][] places = {{3, 2, 2, 1, 0}, {3, 2, 1, 1, 0}, {3, 2, 1, 0, 0}, {3, 2, 1, 0, 0}};
    for (int i = 0; i < 4; i++) {
      x = sound(text.replace("TT", (4 - i) + ",1"));
      x.dance(1);
      for (int k = 0; k < 5; k++) {
        due("dancer(" + k + ",3), asked by the " + i, x.dancer(k, 3), places[i][k]);
        due("dancer(" + k + ",0), asked by the " + i, x.dancer(k, 0), k <= i ? k : k == i + 1 ? 4 : k - 1);
      }
    }
    // the last one asks, with WAY behind him
    x = sound(room(8, 2, "through", "behind") + "steps 2,0;leads ahead;table t at 2,1 sits 3 child legs 1 grip 9 eager 100;" + ONE + "snake 0,0 east");
    x.dance(1);
    due("dancer(1,3), none is there: as at the end", x.dancer(1, 3), 1);
    x.dance(1);
    due("dancer(1,0), right behind the front", x.dancer(1, 0), 2);
    due("dancer(1,3), at the place of the one who is there", x.dancer(1, 3), 1);
    due("dancer(2,0)", x.dancer(2, 0), 1);
    due("dancer(2,2)", x.dancer(2, 2), -1);
  }

  private static void draws() {
    says("DRAW: SEED becomes (75 times SEED and 74) mod 65,537");
    for (int seed : new int[] {0, 1, 871, 872, 873, 874, 30000, 65534, 65535, 65536}) {
      SnakeRow x = sound(room(3, 3, "through", "end") + "steps 1;leads lot;" + ONE + "snake 1,1 north");
      due("seed(" + seed + ")", x.seed(seed));
      due("SEED", x.size(10), seed);
      x.dance(1);
      due("SEED behind one DRAW", x.size(10), after(seed));
      x.dance(1);
      due("SEED behind two", x.size(10), after(after(seed)));
    }
    due("872 is the last below the wrap", after(872), 65474);
    due("873 wraps", after(873), 12);
    due("65536 stays", after(65536), 65536);
    SnakeRow x = sound(room(3, 3, "through", "end") + "steps 3;leads lot;" + ONE + "snake 1,1 north");
    x.dance(20);
    int seed = 0;
    for (int i = 0; i < 60; i++) seed = after(seed);
    due("sixty DRAWS", x.size(10), seed);
  }

  private static void numbersOfDancers() {
    says("Who joins has the next number");
    StringBuilder tables = new StringBuilder();
    for (int i = 0; i < 4; i++) tables.append("table ").append("abcd".charAt(i)).append(" at ").append(i).append(",0 sits 9 child legs 2 grip 9 eager 100;");
    SnakeRow x = sound(room(8, 2, "through", "end") + "steps 0;leads ahead;" + tables + Texts.times(8, FIRM) + "snake 7,1 east");
    for (int round = 0; round < 9; round++) {
      due("dance(1)", x.dance(1), 12);
      for (int i = 0; i < 4; i++) due("number", x.dancer(8 + i, 0), 8 + 4 * round + i);
      if (round < 8) for (int i = 0; i < 4; i++) x.letGo(8);
    }
    for (int i = 0; i < 4; i++) due("sits(" + i + ")", x.sits(i), 0);
    for (int i = 0; i < 7; i++) x.letGo(4);
    due("many()", x.many(), 5);
    due("the last number there is", x.dancer(4, 0), 43);
    due("at(43,0)", x.at(43, 0), 8);
    due("ran(43,1)", x.ran(43, 1), 2);
    due("at(43,1)", x.at(43, 1), 10);
    due("at(44,1)", x.at(44, 1), -2);
    due("ran(44,1)", x.ran(44, 1), 0);
    due("at(42,1)", x.at(42, 1), -2);
    due("runner(1)", x.runner(1), 43);
    due("jolt(4,4)", x.jolt(4, 4), 1);
  }

  private static void longWay() {
    says("OVER: the WAY has more than 200 CELLS");
    SnakeRow x = sound(room(8, 2, "through", "end") + "steps 1;leads ahead;" + ONE + "snake 0,0 east");
    for (int i = 0; i < 9; i++) x.dance(20);
    x.dance(19);
    due("length()", x.length(), 200);
    due("over()", x.over(), 0);
    due("way(199)", x.way(199), x.dancer(0, 1));
    due("way(200)", x.way(200), -1);
    due("dance(1)", x.dance(1), 1);
    due("length()", x.length(), 201);
    due("over()", x.over(), 2);
    due("dance(1)", x.dance(1), -1);
    due("ran(0,40)", x.ran(0, 40), 0);
    due("manyIn(40)", x.manyIn(40), 1);
    due("ring(40)", x.ring(40), -2);
    due("undo()", x.undo());
    due("over()", x.over(), 0);
    due("length()", x.length(), 200);
    // three steps from two hundred: the BEAT ends first
    x = sound(room(8, 2, "through", "end") + "steps 3,3,3,3,3,3,3,2;leads ahead;" + FIRM + FIRM + "snake 1,0 east");
    for (int i = 0; i < 4; i++) x.dance(17);
    due("length()", x.length(), 198);
    x.dance(1);
    due("length()", x.length(), 201);
    due("over()", x.over(), 2);
    x = sound(room(8, 2, "through", "end") + "steps 3;leads ahead;" + FIRM + FIRM + "snake 1,0 east");
    for (int i = 0; i < 6; i++) x.dance(11);
    due("length()", x.length(), 200);
    due("over()", x.over(), 0);
    due("ran(0,40)", x.ran(0, 40), 3);
    x.dance(20);
    due("length()", x.length(), 203);
    due("the second goes after in it", x.dancer(1, 3), 201);
    due("size(9)", x.size(9), 67);
    due("way(202)", x.way(202), x.dancer(0, 1));
  }

  private static void cornersBetween() {
    says("Corners of the WAY between the last one's place and the front's");
    SnakeRow x = sound(room(4, 3, "through", "end") + "steps 1;leads told east,south,south,west,west,west,north;" + FIRM + FIRM + "snake 1,0 east");
    // two dancers, one behind the other: no place between them
    for (int t = 0; t < 7; t++) {
      due("corners() at " + t, x.corners(), 0);
      x.dance(1);
    }
    x = sound(room(4, 3, "through", "end") + "steps 3;leads told east,east,south,south,west,west;" + FIRM + "dancer heavy legs 1 grip 9;snake 1,0 east");
    x.dance(1);
    // way 0 1 2 3 7, he at 1; one turn at place 3
    due("corners()", x.corners(), 1);
    x.dance(1);
    // he at place 2, the front at 7: turns at 3 and 5
    due("corners()", x.corners(), 2);
    x.dance(1);
    due("corners(), the last one at a corner", x.corners(), 1);
    x.letGo(1);
    due("corners() of one", x.corners(), 0);
  }

  // ---- III. what will be

  private static void timesAhead() {
    says("IN t (0 .. 40): what will be behind t BEATS from NOW on");
    SnakeRow x = sound(room(8, 6, "through", "end") + "steps 1;leads ahead;" + FIRM + FIRM + "snake 1,0 east");
    for (int t : new int[] {0, 1, 39, 40}) {
      due("ran(0," + t + ")", x.ran(0, t), t);
      due("ran(1," + t + ")", x.ran(1, t), t);
      due("manyIn(" + t + ")", x.manyIn(t), 2);
    }
    due("at(0,0)", x.at(0, 0), 1);
    due("runner(0), all alike: the first from the front", x.runner(0), 0);
    due("runner(40), all alike", x.runner(40), 0);
    due("joined(0)", x.joined(0), 0);
    due("torn(0)", x.torn(0), -2);
    due("ring(0)", x.ring(0), -2);
    due("leader(0)", x.leader(0), 0);
    due("mean(0,1,0)", x.mean(0, 1, 0), 2);
    x.dance(20);
    int there = x.at(0, 20);
    x.dance(20);
    due("at(0,20), twenty BEATS ago", x.dancer(0, 1), there);
    says("Who of those there IN t RAN most, the first from the front");
    // the second has come up, and both ran alike; then the third more than either
    x = sound(room(8, 2, "through", "end") + "steps 2,0,0;leads told east,east;" + Texts.times(3, ONE) + "snake 3,0 east");
    due("runner(1)", x.runner(1), 0);
    due("runner(2)", x.runner(2), 0);
    x.dance(1);
    due("ran(0,1)", x.ran(0, 1), 0);
    due("runner(1) from NOW on", x.runner(1), 1);
    // one who ran most and is out isn't asked for
    x = sound(room(8, 2, "through", "end") + "steps 3,0,0;leads told east,east,east;" + FIRM + "dancer child legs 1 grip 1;snake 3,0 east");
    due("runner(1)", x.runner(1), 0);
    due("ran(1,1)", x.ran(1, 1), 0);
    says("The widest GAP IN t; -2 without one");
    due("widest(40) of one", sound(HEAD + END).widest(40), -2);
    due("widest(0) of one", sound(HEAD + END).widest(0), -2);
  }

  private static String stuck(int grip) {
    // the second comes to the corner behind seven BEATS and never leaves it
    return room(8, 2, "through", "end") + "steps 1;leads ahead;" + FIRM + "dancer plain legs 1 grip " + grip + ";snake 1,0 east";
  }

  private static void twelveBeats() {
    says("TORN IN 12");
    due("torn(11)", sound(stuck(4)).torn(11), -2);
    due("torn(12)", sound(stuck(4)).torn(12), 11);
    due("torn(12)", sound(stuck(5)).torn(12), -2);
    due("torn(13)", sound(stuck(5)).torn(13), 12);
    due("holds(), torn in the twelfth", sound(stuck(4)).holds(), -2);
    due("holds(), torn in the thirteenth", sound(stuck(5)).holds(), 1);
    due("order(), torn in the twelfth", sound(stuck(4)).order(), 1);
    due("order(), torn in the thirteenth", sound(stuck(5)).order(), 0);
  }

  private static void jolted() {
    says("JOLT of k (1 .. 4): for k BEATS the front stands, then 12 more come");
    for (int k = 1; k <= 4; k++) due("jolt(" + k + ",1)", sound(stuck(9)).jolt(k, 1), 5);
    for (int k = 1; k <= 4; k++) due("jolt(" + k + ",1), torn by the last", sound(stuck(4)).jolt(k, 1), -2);
    for (int k = 1; k <= 4; k++) due("jolt(" + k + ",1), torn by the one behind the last", sound(stuck(5)).jolt(k, 1), 5);
    says("(their steps are lost)");
    // steps only in the first of four BEATS: standing in it loses them, and they come again in the fifth
    String text = room(8, 2, "through", "end") + "steps 3,0,0,0,0,0,0,0;leads told east,east,east;" + FIRM + "dancer child legs 1 grip 9;snake 1,0 east";
    due("jolt(1,1)", sound(text).jolt(1, 1), 2);
    SnakeRow x = sound(text.replace("told east,east,east", "ahead").replace("3,0,0,0,0,0,0,0", "3,2,0,0,0,0,0,0"));
    // two steps alone come to a GAP of 1, and the three of the ninth BEAT and the two of the tenth to 2 and 3
    due("jolt(1,1)", x.jolt(1, 1), 3);
    says("of each the widest GAP behind any of all these");
    // six steps, then none: the GAP NOW is 4, behind the BEATS that he stands 3, 2, 1, 0
    text = room(8, 2, "through", "end") + "steps 3;leads told east,east,east,east,east,east;" + FIRM + "dancer child legs 1 grip 9;snake 1,0 east";
    for (int k = 1; k <= 4; k++) {
      x = sound(text);
      x.dance(2);
      due("dancer(1,2)", x.dancer(1, 2), 4);
      due("jolt(" + k + ",1)", x.jolt(k, 1), 3);
    }
    says("-2 if he is out by it");
    x = sound(room(8, 2, "through", "end") + "steps 3;leads ahead;" + FIRM + FIRM + "dancer child legs 1 grip 3;snake 2,0 east");
    due("jolt(4,1)", x.jolt(4, 1), 0);
    due("jolt(4,2)", x.jolt(4, 2), -2);
    due("grows(4,1)", x.grows(4, 1), -2);
    says("it GROWS from one to the one behind him if that is wider (1), 0 alike, -1 less");
    String two = room(8, 2, "through", "end") + "steps 3,0,0,0,0,0,0,0;leads told east,east,east;" + FIRM + "dancer child legs AA grip 9;dancer child legs BB grip 9;"
        + "snake 2,0 east";
    int[][] legs = {{9, 9, 0}, {9, 2, 1}, {9, 1, 1}, {2, 9, -1}, {1, 9, -1}, {2, 1, 0}};
    int[][] gaps = {{0, 0}, {0, 1}, {0, 2}, {1, 0}, {2, 0}, {1, 1}};
    for (int i = 0; i < legs.length; i++) {
      x = sound(two.replace("AA", "" + legs[i][0]).replace("BB", "" + legs[i][1]));
      due("jolt(1,1)", x.jolt(1, 1), gaps[i][0]);
      due("jolt(1,2)", x.jolt(1, 2), gaps[i][1]);
      due("grows(1,1)", x.grows(1, 1), legs[i][2]);
    }
    // by numbers: who joins between doesn't come in his place
    x = sound(room(8, 2, "through", "behind") + "steps 1;leads told east;table t at 3,1 sits 1 child legs 9 grip 9 eager 100;" + FIRM
        + "dancer child legs 9 grip 9;snake 3,0 east");
    due("jolt(1,1)", x.jolt(1, 1), 0);
  }

  // ---- what is best

  private static void held() {
    says("HOLDS: the most steps each BEAT (1 .. 3, all alike); -2 if none does");
    for (int legs = 1; legs <= 4; legs++) {
      SnakeRow x = sound(room(8, 2, "through", "end") + "steps 0;leads ahead;" + FIRM + "dancer child legs " + legs + " grip 0;snake 1,0 east");
      due("holds() of legs " + legs, x.holds(), Math.min(legs, 3));
    }
    due("holds() of one", sound(HEAD + END).holds(), 3);
    due("holds() of heavy ones at a corner", sound(room(8, 2, "through", "end") + "steps 0;leads ahead;" + FIRM
        + "dancer heavy legs 2 grip 0;snake 1,0 east").holds(), -2);
    // nobody is torn where nobody goes
    due("holds() shut in", sound("hall wide 3 high 2 law through joins end;row ffw;row wwf;steps 1;leads told north;" + ONE
        + "dancer heavy legs 1 grip 0;snake 1,0 east").holds(), 3);
    SnakeRow over = sound(room(3, 2, "round", "end") + LOOP + Texts.times(3, ONE) + "snake 2,0 east");
    over.dance(2);
    due("holds() of a RING", over.holds(), 3);
  }

  private static void ordered() {
    says("ORDERS of all but the front (7 dancers in all at most): of like ones the first by places");
    String head = room(8, 2, "through", "end") + "steps 2;leads ahead;" + FIRM;
    SnakeRow x = sound(head + Texts.times(6, FIRM) + "snake 7,0 east");
    due("order() of seven", x.order(), 0);
    for (int i = 1; i <= 6; i++) due("orderAt(" + i + ")", x.orderAt(i), i);
    // one who is always torn had best be the last one, the others as they are
    for (int weak = 1; weak <= 6; weak++) {
      x = sound(head + Texts.times(weak - 1, FIRM) + "dancer child legs 1 grip 0;" + Texts.times(6 - weak, FIRM) + "snake 7,0 east");
      due("order() with a weak one at " + weak, x.order(), 1);
      for (int i = 1; i <= 6; i++) due("orderAt(" + i + ") with a weak one at " + weak, x.orderAt(i), i == 6 ? weak : i < weak ? i : i + 1);
    }
    // all are out however they stand: the first
    x = sound(head + Texts.times(4, "dancer child legs 1 grip 0;") + "snake 7,0 east");
    due("order() of weak ones", x.order(), 4);
    for (int i = 1; i <= 4; i++) due("orderAt(" + i + ")", x.orderAt(i), i);
    // two weak ones keep their order behind the others
    x = sound(head + "dancer child legs 1 grip 0;" + FIRM + "dancer child legs 1 grip 0;" + FIRM + "snake 7,0 east");
    int[] want = {2, 4, 1, 3};
    due("order()", x.order(), 2);
    for (int i = 1; i <= 4; i++) due("orderAt(" + i + ")", x.orderAt(i), want[i - 1]);
    due("size(13)", x.size(13), 0);
    says("each told by his place NOW");
    x.change(1, 2);
    int[] then = {1, 4, 2, 3};
    for (int i = 1; i <= 4; i++) due("orderAt(" + i + ")", x.orderAt(i), then[i - 1]);
    says("how many are out by it (TORN alone)");
    due("order() of one", sound(HEAD + END).order(), 0);
    // who joined is out, too, if he is torn
    x = sound(room(8, 2, "through", "end") + "steps 2;leads ahead;table t at 3,1 sits 1 child legs 1 grip 0 eager 100;" + FIRM + "snake 1,0 east");
    due("order() with one who joins", x.order(), 1);
  }

  /** Next by places, or false behind the last. */
  private static boolean nextOrder(int[] order) {
    int rise = order.length - 2, other = order.length - 1;
    while (rise >= 0 && order[rise] > order[rise + 1]) rise--;
    if (rise < 0) return false;
    while (order[other] < order[rise]) other--;
    int kept = order[rise];
    order[rise] = order[other];
    order[other] = kept;
    Arrays.sort(order, rise + 1, order.length);
    return true;
  }

  /** Each order is danced for itself; who is there no more is out, as there are neither AUNTS nor tables. */
  private static void allOrders(String head, String snake, String... dancers) {
    int[] order = new int[dancers.length], best = null;
    for (int i = 0; i < order.length; i++) order[i] = i;
    int least = 99;
    do {
      StringBuilder text = new StringBuilder(head);
      for (int i : order) text.append(dancers[i]);
      SnakeRow x = sound(text + snake);
      int out = x.many() - x.manyIn(12);
      if (out < least) {
        least = out;
        best = order.clone();
      }
    } while (nextOrder(order));
    StringBuilder text = new StringBuilder(head);
    for (String d : dancers) text.append(d);
    SnakeRow x = sound(text + snake);
    due("order() of " + text, x.order(), least);
    for (int i = 0; i < best.length; i++) due("orderAt(" + (i + 1) + ") of " + text, x.orderAt(i + 1), best[i] + 1);
  }

  private static void allOrdered() {
    says("ORDERS: the one in which fewest are TORN IN 12, of like ones the first by places");
    // one is out in the first, none in a later one
    allOrders(room(8, 6, "through", "end") + "steps 2,1,1,3,2;leads ahead;dancer plain legs 1 grip 1;", "snake 4,2 east",
        "dancer plain legs 3 grip 1;", "dancer plain legs 3 grip 0;", "dancer plain legs 4 grip 1;");
    // of all that seven can be put in it is the very last that is best
    String[] six = {"dancer heavy legs 2 grip 2;", "dancer heavy legs 3 grip 0;", "dancer heavy legs 3 grip 1;", "dancer heavy legs 4 grip 0;",
        "dancer child legs 2 grip 3;", "dancer plain legs 3 grip 4;"};
    String head = room(8, 6, "through", "end") + "steps 3;leads told east,west,west,south,north,north,east,west,north,north,west,north;"
        + "dancer plain legs 1 grip 1;";
    allOrders(head, "snake 7,1 east", six);
    SnakeRow x = sound(head + String.join("", six) + "snake 7,1 east");
    for (int i = 1; i <= 6; i++) due("orderAt(" + i + ")", x.orderAt(i), 7 - i);
    // two are out in two BEATS, one in each, or both in one
    allOrders(room(8, 2, "through", "end") + "steps 2,3;leads ahead;" + FIRM, "snake 3,0 east", "dancer child legs 2 grip 0;",
        "dancer child legs 1 grip 0;");
    // and the very first
    allOrders(head, "snake 7,1 east", six[5], six[4], six[3], six[2], six[1], six[0]);
    allOrders(head, "snake 7,1 east", six[2], six[5], six[0]);
    allOrders(head, "snake 7,1 east", six[2]);
  }

  private static void bestLed() {
    says("BEST LEADER: of ahead, right, left, home (0, 1, 2, 4) that by whom most are there IN t, the first such");
    String[] table = {"2,1", "1,2", "1,0", "0,1"};
    int[] want = {0, 1, 2, 0};
    for (int i = 0; i < 4; i++) {
      // beyond the CELL to which he has to go stands a table
      int[][] far = {{4, 2}, {2, 4}, {2, 0}, {0, 2}};
      SnakeRow x = sound("hall wide 5 high 5 law through joins end;row fffff;row fffff;row fffff;row fffff;row fffff;steps 1;leads lot;home 2,2;"
          + "table t at " + far[i][0] + "," + far[i][1] + " sits 1 plain legs 1 grip 1 eager 100;" + ONE + "snake 2,2 east");
      due("leader(1), a table at " + far[i][0] + "," + far[i][1], x.leader(1), want[i]);
    }
    SnakeRow x = sound("hall wide 5 high 5 law through joins end;row fffff;row fffff;row fffff;row fffff;row fffff;steps 1;leads lot;home 1,2;"
        + "table t at 0,2 sits 1 plain legs 1 grip 1 eager 100;" + ONE + "snake 2,2 east");
    due("leader(1), home alone", x.leader(1), 4);
    due("leader(0)", x.leader(0), 0);
    due("size(7)", x.size(7), 3);
  }

  private static void planned() {
    says("PLAN of d (1 .. 5): a told way of d SIDES by which most are there IN d, of like ones the first (north, east, south, west)");
    String text = room(5, 5, "through", "end") + "steps 1;leads ahead;table t at TT sits 1 plain legs 9 grip 9 eager 100;" + ONE + "snake 2,2 east";
    String[] far = {"2,0", "4,2", "2,4", "0,2"};
    for (int i = 0; i < 4; i++) {
      SnakeRow x = sound(text.replace("TT", far[i]));
      due("plan(1)", x.plan(1), 2);
      due("planAt(1,0), a table at " + far[i], x.planAt(1, 0), i);
    }
    SnakeRow x = sound(room(5, 5, "through", "end") + "steps 1;leads ahead;" + ONE + "snake 2,2 east");
    for (int d = 1; d <= 5; d++) {
      due("plan(" + d + ")", x.plan(d), 1);
      for (int i = 0; i < d; i++) due("planAt(" + d + "," + i + ")", x.planAt(d, i), 0);
    }
    // five BEATS away: west, west, north, north, and one that stays at the hall's side
    x = sound(room(8, 6, "through", "end") + "steps 1;leads ahead;table t at 0,0 sits 1 plain legs 9 grip 9 eager 100;" + ONE + "snake 3,2 east");
    due("plan(3)", x.plan(3), 1);
    due("plan(4)", x.plan(4), 2);
    int[] four = {0, 0, 3, 3};
    for (int i = 0; i < 4; i++) due("planAt(4," + i + ")", x.planAt(4, i), four[i]);
    // of five the first has a SIDE that is gone without going
    int[] five = {0, 0, 0, 3, 3};
    due("plan(5)", x.plan(5), 2);
    for (int i = 0; i < 5; i++) due("planAt(5," + i + ")", x.planAt(5, i), five[i]);
    // three steps a BEAT take three SIDES; then none are left
    x = sound(room(8, 6, "through", "end") + "steps 3;leads ahead;table t at 0,0 sits 9 plain legs 9 grip 9 eager 100;" + ONE + "snake 2,1 east");
    due("plan(1)", x.plan(1), 1);
    due("plan(2): there in the first BEAT, and in the second none are left", x.plan(2), 3);
    due("planAt(2,0)", x.planAt(2, 0), 0);
    due("planAt(2,1)", x.planAt(2, 1), 3);
    // the last of all plans: a table that only d BEATS to the west come to
    for (int d = 1; d <= 5; d++) {
      for (int side = 1; side <= 3; side += 2) {
        String end = side == 3 ? "0,0" : "7,0";
        int from = side == 3 ? d + 1 : 6 - d;
        x = sound(room(8, 2, "through", "end") + "steps 1;leads ahead;table t at " + end + " sits 1 plain legs 9 grip 9 eager 100;" + ONE
            + "snake " + from + ",0 east");
        due("plan(" + d + ")", x.plan(d), 2);
        for (int i = 0; i < d; i++) due("planAt(" + d + "," + i + ")", x.planAt(d, i), side);
      }
    }
    // SIDES that are told and gone play no part, those that are left neither
    x = sound(room(5, 5, "through", "end") + "steps 1;leads told east,east;table t at 2,4 sits 1 plain legs 9 grip 9 eager 100;" + ONE + "snake 2,2 east");
    due("planAt(1,0)", x.planAt(1, 0), 2);
    due("plan(1)", x.plan(1), 2);
    x = sound(room(5, 5, "through", "end") + "steps 1;leads told east,west,east,west;table t at 2,4 sits 1 plain legs 9 grip 9 eager 100;" + ONE
        + "snake 2,2 east");
    for (int gone = 2; gone <= 4; gone += 2) {
      x.dance(2);
      due("planAt(1,0), " + gone + " SIDES gone", x.planAt(1, 0), 2);
      due("plan(1), " + gone + " SIDES gone", x.plan(1), 2);
      due("planAt(5,0), " + gone + " SIDES gone", x.planAt(5, 0), 0);
    }
  }

  private static void meant() {
    says("MEAN: over n seeds (1 .. 20) from one on, one by one (mod 65,537)");
    SnakeRow x = sound(room(3, 3, "through", "end") + "steps 1;leads lot;table t at 1,1 sits 9 plain legs 9 grip 9 eager 50;" + ONE + "snake 1,0 north");
    for (int from : new int[] {0, 65517, 65518, 65530, 65536}) {
      int[] one = new int[20];
      for (int i = 0; i < 20; i++) one[i] = x.mean((from + i) % 65537, 1, 4);
      int sum = 0;
      for (int n = 1; n <= 20; n++) {
        sum += one[n - 1];
        if (n < 3 || n > 18) due("mean(" + from + "," + n + ",4)", x.mean(from, n, 4), sum);
      }
    }
    x = sound(room(3, 3, "through", "end") + "steps 1;leads lot;table t at 1,1 sits 9 plain legs 9 grip 9 eager 50;" + ONE + "snake 1,0 north");
    for (int seed : new int[] {0, 77, 65536}) {
      x.seed(seed);
      for (int t : new int[] {0, 1, 40}) due("mean of one is as manyIn", x.mean(seed, 1, t), x.manyIn(t));
    }
    due("SEED stays", x.size(10), 65536);
    due("mean(3,20,0)", x.mean(3, 20, 0), 20);
  }

  // ---- the band, the film

  private static void heard() {
    says("STEPS to the band by x and y, by sound, downwards");
    for (int sound = 1; sound <= 9; sound++) {
      SnakeRow x = sound(room(8, 6, "through", "end") + END + ";band 7,5 sound " + sound);
      for (int i = 0; i < 8; i++) {
        for (int k = 0; k < 6; k++) due("late(" + i + "," + k + ") of sound " + sound, x.late(i, k), (7 - i + 5 - k) / sound);
      }
    }
    SnakeRow x = sound("hall wide 3 high 2 law through joins end;row fff;row fwf;" + END + ";band 1,1 sound 1");
    due("late on a wall", x.late(1, 1), 0);
    due("late(2,0)", x.late(2, 0), 2);
    says("is late by a number that the number of steps told divides");
    for (int told = 1; told <= 8; told++) {
      for (int at = 0; at < 8; at++) {
        x = sound(room(8, 2, "through", "end") + "steps 1" + Texts.times(told - 1, ",0") + ";leads ahead;" + ONE + "snake " + at + ",1 north;band 0,0 sound 1");
        due("inTime() " + (at + 1) + " late of " + told, x.inTime(), (at + 1) % told == 0 ? 1 : 0);
      }
    }
    x = sound(room(8, 2, "through", "end") + "steps 1,1,1;leads ahead;" + Texts.times(8, ONE) + "snake 7,0 east;band 0,0 sound 1");
    due("inTime() of eight", x.inTime(), 3);
    due("it is no KICK", x.kicks(), 0);
    says("BEST BAND: the CELL (no wall) from which most would be IN TIME, the first such");
    // from 1,0 it is late by 1, 0 .. 6: at 1, 4, 7; from 0,0 at 0, 3, 6; from 2,0 at 2, 5 alone
    due("bestBand()", x.bestBand(), 0);
    x.letGo(7);
    due("bestBand() without the last", x.bestBand(), 1);
    due("size(11)", x.size(11), 0);
    x = sound("hall wide 8 high 2 law through joins end;row ffffffff;row wffffffs;steps 1,1,1;leads ahead;" + ONE + "snake 1,0 east;band 7,1 sound 1");
    due("bestBand(), where he stands", x.bestBand(), 1);
    x = sound("hall wide 8 high 2 law through joins end;row wwfwwwww;row wwwwwwww;steps 1,1,1;leads ahead;" + ONE + "snake 2,0 east;band 0,0 sound 1");
    due("bestBand(), one CELL alone is no wall", x.bestBand(), 2);
    x = sound("hall wide 3 high 2 law through joins end;row wwf;row wff;steps 1,1,1,1,1,1,1,1;leads ahead;table t at 2,1 sits 1 plain legs 1 grip 1 eager 1;"
        + ONE + "snake 2,0 north;band 0,0 sound 1");
    due("bestBand()", x.bestBand(), 2);
    // from a table all hear it as well
    x = sound("hall wide 3 high 2 law through joins end;row fff;row fff;steps 1;leads ahead;table t at 0,0 sits 1 plain legs 1 grip 1 eager 1;"
        + ONE + "snake 2,0 north;band 1,1 sound 1");
    due("bestBand(), a table is no wall", x.bestBand(), 0);
    // at 0,0 and 1,1, four steps told: from 0,4 both would be late by 4, but that is below the hall
    x = sound(room(4, 4, "through", "end") + "steps 2,0,0,0;leads told north,west;" + ONE + ONE + "snake 1,1 west;band 3,3 sound 1");
    x.dance(1);
    due("where the front stands", x.stands(0, 0), 0);
    due("where the other stands", x.stands(1, 1), 1);
    due("bestBand(), in the hall alone", x.bestBand(), 0);
    due("inTime() from 0,0", x.band(0, 0) ? x.inTime() : -9, 1);
  }

  private static void wayOut() {
    says("OUT: the fewest CELLS from the front to home, over OPEN ones where nobody stands NOW; -2 if there is no way");
    String text = room(8, 6, "through", "end") + "steps 1;leads ahead;" + FIRM;
    due("at home", sound(text + "snake 0,0 east;home 0,0").out(), 0);
    due("one CELL", sound(text + "snake 0,0 east;home 1,0").out(), 1);
    due("from corner to corner", sound(text + "snake 0,0 east;home 7,5").out(), 12);
    due("back again", sound(text + "snake 7,5 east;home 0,0").out(), 12);
    // the longest way there is winds through walls
    SnakeRow x = sound("hall wide 8 high 6 law through joins end;row ffffffff;row wwwwwwwf;row ffffffff;row fwwwwwww;row ffffffff;row wwwwwwwf;"
        + "steps 1;leads ahead;" + ONE + "snake 0,0 west;home 7,5");
    due("winding", x.out(), 26);
    due("at(0,26), led home", x.lead(4) ? x.at(0, 26) : -9, 47);
    due("at(0,25)", x.at(0, 25), 39);
    x = sound("hall wide 3 high 3 law through joins end;row fwf;row wff;row fff;steps 1;leads ahead;" + ONE + "snake 0,0 west;home 2,2");
    due("shut in", x.out(), -2);
    x = sound(room(3, 2, "through", "end") + "steps 1;leads ahead;" + ONE + ONE + "snake 1,0 east;home 0,0");
    due("someone stands at home", x.out(), -2);
    x = sound(room(3, 2, "through", "end") + "steps 1;leads ahead;" + ONE + ONE + "snake 1,0 west;home 0,1");
    due("he stands not in the way", x.out(), 2);
    x.dance(1);
    due("out() NOW", x.out(), 1);
  }

  private static void filmed() {
    says("FITS: all frames are so: behind so many BEATS that dancer stands there (one who is out: no)");
    String text = room(8, 6, "through", "end") + "steps 1;leads told north;home 3,0;" + FIRM + FIRM + "snake 3,3 east";
    due("no frames", sound(text).fits(), 31);
    due("beat 0, there", sound(text + ";frame 0 0 at 3,3;frame 0 1 at 2,3").fits(), 31);
    due("beat 0, elsewhere", sound(text + ";frame 0 0 at 2,3").fits(), 0);
    due("beat 1, ahead", sound(text + ";frame 1 0 at 4,3").fits(), 1);
    due("beat 1, right", sound(text + ";frame 1 0 at 3,4").fits() & 7, 2);
    due("beat 1, left and home", sound(text + ";frame 1 0 at 3,2").fits() & 23, 4 + 16);
    due("beat 40, at home", sound(text + ";frame 40 0 at 3,0").fits() & 16, 16);
    due("beat 40, elsewhere", sound(text + ";frame 40 0 at 3,1").fits() & 16, 0);
    due("beat 39 is so, beat 40 is not", sound(text + ";frame 39 0 at 3,0;frame 40 0 at 4,0").fits() & 16, 0);
    due("beat 0 is so, beat 1 is not", sound(text + ";frame 0 0 at 3,3;frame 1 0 at 3,3").fits(), 0);
    due("beat 40, the second", sound(text + ";frame 40 1 at 3,1").fits() & 16, 16);
    // by lot: the DRAW is 74, then 5624: 74 mod 4 is south
    due("beat 1, by lot", sound(text + ";frame 1 0 at 3,4").fits() & 8, 8);
    // ahead: east to the hall's side, then to his right: south, and then to his right: west
    String[] cell = {"3,3", "4,3", "5,3", "6,3", "7,3", "7,4", "7,5", "6,5"};
    StringBuilder eight = new StringBuilder(text);
    for (int i = 0; i < 8; i++) eight.append(";frame ").append(i).append(" 0 at ").append(cell[i]);
    due("eight frames", sound(eight.toString()).fits() & 7, 1);
    due("the last of eight is not so", sound(eight.toString().replace("at 6,5", "at 7,5")).fits() & 7, 0);
    SnakeRow out = sound(room(8, 2, "through", "end") + "steps 2;leads ahead;" + FIRM + "dancer child legs 1 grip 0;snake 1,0 east;frame 1 1 at 1,0");
    due("one who is out", out.fits() & 7, 0);
    says("from the text on, SEED 0");
    SnakeRow x = sound(text + ";frame 1 0 at 3,4");
    int fits = x.fits();
    x.seed(5);
    x.dance(20);
    x.letGo(1);
    x.lead(2);
    due("fits()", x.fits(), fits);
  }

  // ---- acts

  private static void acted() {
    says("n BEATS (1 .. 20)");
    SnakeRow x = sound(room(8, 6, "through", "end") + "steps 1;leads ahead;" + FIRM + FIRM + "snake 1,0 east");
    due("dance(1)", x.dance(1), 2);
    due("size(9)", x.size(9), 1);
    due("dance(20)", x.dance(20), 2);
    due("size(9)", x.size(9), 21);
    due("size(13)", x.size(13), 2);
    says("another LEADER (0 .. 4)");
    for (int leader = 4; leader >= 0; leader--) {
      due("lead(" + leader + ")", x.lead(leader));
      due("size(7)", x.size(7), leader);
    }
    says("CHANGE (two change places, but the front)");
    x = sound(room(8, 2, "through", "end") + "steps 1;leads ahead;dancer plain legs 1 grip 0;dancer aunt legs 2 grip 1;dancer child legs 3 grip 2;"
        + "dancer heavy legs 4 grip 3;snake 3,0 east");
    due("change(1,3)", x.change(1, 3));
    int[] want = {0, 3, 2, 1};
    for (int i = 0; i < 4; i++) {
      due("number", x.dancer(i, 0), want[i]);
      due("place", x.dancer(i, 3), 3 - i);
      due("KIND", x.dancer(i, 4), want[i]);
      due("legs", x.dancer(i, 5), want[i] + 1);
      due("grip", x.dancer(i, 6), want[i]);
    }
    due("change(3,2)", x.change(3, 2));
    due("number", x.dancer(3, 0), 2);
    due("number", x.dancer(2, 0), 1);
    says("LET GO (one is out)");
    due("letGo(3), the last", x.letGo(3));
    due("letGo(1), the first behind the front", x.letGo(1));
    due("many()", x.many(), 2);
    due("dancer(1,0)", x.dancer(1, 0), 1);
    due("dancer(1,2)", x.dancer(1, 2), 1);
    says("BAND, moved: to any CELL that is no wall");
    x = sound("hall wide 3 high 2 law through joins end;row wff;row fff;" + END + ";band 0,0 sound 1;home 0,0");
    for (int i = 1; i < 6; i++) {
      due("band " + i, x.band(i % 3, i / 3));
      due("size(11)", x.size(11), i);
      due("late there", x.late(i % 3, i / 3), 0);
    }
    says("SEED (no ACT), 0 .. 65,536");
    due("seed(0)", x.seed(0));
    due("seed(65536)", x.seed(65536));
    due("size(10)", x.size(10), 65536);
    due("size(13)", x.size(13), 5);
  }

  private static void undoneAndMarked() {
    says("UNDO: all is as ahead of the latest (10 are kept)");
    for (int acts : new int[] {0, 1, 9, 10, 11, 25}) {
      SnakeRow x = sound(room(8, 6, "through", "end") + "steps 1;leads ahead;" + FIRM + "snake 1,0 east");
      for (int i = 0; i < acts; i++) x.dance(1);
      due("size(13) behind " + acts, x.size(13), Math.min(acts, 10));
      for (int i = 1; i <= Math.min(acts, 10); i++) {
        due("undo() " + i + " of " + acts, x.undo());
        due("size(9)", x.size(9), acts - i);
        due("length()", x.length(), 1 + acts - i);
        due("size(13)", x.size(13), Math.min(acts, 10) - i);
      }
      due("undo() of none", !x.undo());
      due("size(9)", x.size(9), Math.max(0, acts - 10));
      // there is room for ten again
      for (int i = 0; i < 10; i++) x.dance(1);
      due("size(13)", x.size(13), 10);
    }
    says("MARKS: up to 3; gone back to one, nothing can be undone");
    SnakeRow x = sound(room(8, 6, "through", "end") + "steps 1;leads ahead;" + FIRM + "snake 1,0 east");
    for (int i = 0; i < 3; i++) {
      x.dance(1);
      due("mark()", x.mark(), i);
      due("size(14)", x.size(14), i + 1);
    }
    due("a fourth", x.mark(), -1);
    x.dance(7);
    for (int i : new int[] {2, 0, 1, 1, 2}) {
      x.dance(1);
      due("back(" + i + ")", x.back(i));
      due("size(9)", x.size(9), i + 1);
      due("length()", x.length(), i + 2);
      due("size(13)", x.size(13), 0);
      due("size(14): all MARKS stay", x.size(14), 3);
      due("undo()", !x.undo());
    }
    x.dance(1);
    due("undo() of what came behind it", x.undo());
    due("size(9)", x.size(9), 3);
    // a MARK of where all began
    x = sound(room(8, 6, "through", "end") + "steps 1;leads ahead;" + FIRM + "snake 1,0 east");
    due("mark()", x.mark(), 0);
    x.dance(20);
    due("back(0)", x.back(0));
    due("size(9)", x.size(9), 0);
    due("length()", x.length(), 1);
  }

  private static void toldAtTheBounds() {
    says("all that a text has room for");
    StringBuilder most = new StringBuilder(room(8, 6, "round", "behind")).append("band 7,5 sound 9;home 7,5;steps 3,3,3,3,3,3,3,0;leads home;");
    int[][] at = {{0, 5}, {1, 5}, {2, 5}, {3, 5}};
    for (int i = 0; i < 4; i++) {
      most.append("table ").append("abcd".charAt(i)).append(" at ").append(at[i][0]).append(",5 sits 9 heavy legs 9 grip 9 eager 100;");
    }
    most.append(Texts.times(8, "dancer aunt legs 9 grip 9;")).append("snake 7,0 east").append(Texts.times(8, ";frame 40 7 at 7,5"));
    SnakeRow x = sound(most.toString());
    int[] sizes = {8, 6, 1, 1, 4, 8, 8, 4, 1, 0, 0, 47, 47, 0, 0, 0};
    for (int i = 0; i <= 15; i++) due("size(" + i + ") of the most", x.size(i), sizes[i]);
    int[] table = {43, 3, 9, 9, 100};
    for (int i = 0; i < 5; i++) due("table(3," + i + ")", x.table(3, i), table[i]);
    due("table(4,0)", x.table(4, 0), -1);
    due("sits(3)", x.sits(3), 9);
    due("steps(7)", x.steps(7), 0);
    due("steps(8)", x.steps(8), -1);
    due("dancer(7,0)", x.dancer(7, 0), 7);
    due("dancer(7,5)", x.dancer(7, 5), 9);
    due("dancer(7,6)", x.dancer(7, 6), 9);
    x.seed(65536);
    for (int i = 0; i < 12; i++) x.lead(i % 2);
    for (int i = 0; i < 4; i++) x.mark();
    for (int i = 0; i < 46; i++) x.feed(0, 0, 0, 0, 0);
    due("size(10)", x.size(10), 65536);
    due("size(13)", x.size(13), 10);
    due("size(14)", x.size(14), 3);
    due("size(15)", x.size(15), 900);
    due("size(16)", x.size(16), -1);
    due("size(-1)", x.size(-1), -1);
    says("the least that a text has to tell");
    x = sound("hall wide 3 high 2 law through joins end;row fff;row fff;steps 0;leads ahead;dancer plain legs 1 grip 0;snake 0,0 north");
    int[] few = {3, 2, 0, 0, 0, 1, 0, 0, 0, 0, 0, -2, -2, 0, 0, 0};
    for (int i = 0; i <= 15; i++) due("size(" + i + ") of the least", x.size(i), few[i]);
    due("steps(0)", x.steps(0), 0);
    due("steps(1)", x.steps(1), -1);
    due("sits(0)", x.sits(0), -1);
    due("fits()", x.fits(), 31);
    x = sound(HEAD + "table t at 0,0 sits 1 plain legs 1 grip 0 eager 0;" + END);
    int[] least = {0, 0, 1, 0, 0};
    for (int i = 0; i < 5; i++) due("table(0," + i + ") of the least", x.table(0, i), least[i]);
    due("sits(0)", x.sits(0), 1);
    says("the LEADER NOW (0 ahead, 1 right, 2 left, 3 lot, 4 home, 5 told); whither the front looks");
    String[] leads = {"ahead", "right", "left", "lot", "home", "told north"}, side = {"north", "east", "south", "west"};
    for (int i = 0; i < 6; i++) due("size(7)", sound(HEAD + END.replace("leads ahead", "leads " + leads[i])).size(7), i);
    for (int i = 0; i < 4; i++) due("size(8)", sound(HEAD + END.replace("east", side[i])).size(8), i);
    String[] kind = {"plain", "aunt", "child", "heavy"};
    for (int i = 0; i < 4; i++) due("dancer(0,4)", sound(HEAD + END.replace("plain", kind[i])).dancer(0, 4), i);
    says("LAW: through, or round; WHERE: end, or behind");
    due("law through", sound(room(3, 2, "through", "end") + END).size(2), 0);
    due("law round", sound(room(3, 2, "round", "end") + END).size(2), 1);
    due("joins end", sound(room(3, 2, "round", "end") + END).size(3), 0);
    due("joins behind", sound(room(3, 2, "round", "behind") + END).size(3), 1);
  }

  private static void ledInOrder() {
    says("The i-th from the front (his number) who stands on stairs");
    SnakeRow x = sound("hall wide 8 high 2 law through joins end;row sfsfssff;row ffffffff;steps 1;leads ahead;" + Texts.times(7, FIRM) + "snake 6,0 east");
    int[] want = {1, 2, 4, 6, -99};
    for (int i = 0; i < want.length; i++) due("led(" + i + ")", Texts.led(x, i), want[i]);
    due("led(-1)", Texts.led(x, -1), -99);
    x.change(1, 6);
    due("led(0)", Texts.led(x, 0), 6);
    due("led(3)", Texts.led(x, 3), 1);
    x = sound("hall wide 3 high 2 law through joins end;row fss;row fff;" + END);
    due("led(0), the front", Texts.led(x, 0), 0);
    due("led(1)", Texts.led(x, 1), -99);
    x.dance(1);
    due("led(0)", Texts.led(x, 0), 0);
    x.dance(1);
    due("led(0), on floor", Texts.led(x, 0), -99);
  }
}
