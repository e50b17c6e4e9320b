/** Each promise by its number: ordinary calls, the edges that the document names, and wrong calls with their TROUBLE. */
public final class SnakeRowPromises {
  private static int wrong = 0;
  private static int promise = 0;

  public static void main(String[] args) {
    newObject();
    feeding();
    hallTaken();
    hallFormFaults();
    hallAgainAndBoundsFaults();
    hallManyAndLacksFaults();
    hallWrongFaults();
    faultAndWhere();
    cells();
    dancers();
    wayAndCorners();
    seatsAndOver();
    whoIsThere();
    whereAndHowFar();
    tearing();
    joining();
    closing();
    leadersGo();
    jolts();
    holding();
    orders();
    bestLeader();
    plans();
    means();
    bandAndKicks();
    wayOut();
    film();
    dancing();
    leading();
    changing();
    lettingGo();
    bandMoved();
    seeding();
    undoing();
    marking();
    told();
    ledOnStairs();
    sizes();
    troubles();
    System.out.println(wrong == 0 ? "all promises hold" : wrong + " answers are not as promised");
    if (wrong != 0) System.exit(1);
  }

  // ---- what the tests share

  private static void due(String call, long got, long want) {
    if (got == want) return;
    wrong++;
    System.out.println("promise " + promise + ": " + call + " answered " + got + ", due is " + want);
  }

  private static void due(String call, boolean got, boolean want) { due(call, got ? 1 : 0, want ? 1 : 0); }

  /** A refusal and the TROUBLE that it leaves. */
  private static void refused(SnakeRow x, String call, long got, int trouble) {
    due(call, got, -1);
    due("trouble() behind " + call, x.trouble(), trouble);
  }

  private static void refused(SnakeRow x, String call, boolean got, int trouble) {
    due(call, got, false);
    due("trouble() behind " + call, x.trouble(), trouble);
  }

  /** An answer that is no refusal, so that TROUBLE is 0. */
  private static void fine(SnakeRow x, String call, long got, long want) {
    due(call, got, want);
    due("trouble() behind " + call, x.trouble(), 0);
  }

  private static void fine(SnakeRow x, String call, boolean got) { fine(x, call, got ? 1 : 0, 1); }

  private static SnakeRow read(String text) {
    SnakeRow x = new SnakeRow();
    Texts.put(x, text);
    x.hall(text.length());
    if (x.trouble() != 0) {
      wrong++;
      System.out.println("promise " + promise + ": a sound text is refused, fault " + x.fault() + " at " + x.where() + ": " + text);
    }
    return x;
  }

  /** A text with a bar ahead of the place of its fault. */
  private static void fault(int number, String barred) {
    int place = barred.indexOf('|');
    String text = barred.replace("|", "");
    SnakeRow x = new SnakeRow();
    Texts.put(x, text);
    refused(x, "hall of " + barred, x.hall(text.length()), 4);
    due("fault() of " + barred, x.fault(), number);
    due("where() of " + barred, x.where(), place);
  }

  private static final String HEAD = "hall wide 3 high 2 law round joins end;row fff;row fff;";
  private static final String ONE = "dancer plain legs 1 grip 9;";
  private static final String TABLE = "table a at 0,0 sits 1 plain legs 1 grip 1 eager 1;";
  private static final String MEANS = "steps 1;leads ahead;";

  /** Four who are unlike at corners; two steps a beat round a hall of 4 by 3. */
  private static final String CORNERS = "hall wide 4 high 3 law through joins end;row ffff;row ffff;row ffff;steps 2;leads ahead;"
      + "dancer plain legs 2 grip 9;dancer plain legs 2 grip 9;dancer child legs 2 grip 8;dancer heavy legs 2 grip 7;snake 3,0 east";

  /** One on a floor with a table that can be come to by the south alone, where home is, too. */
  private static final String SOUTH = "hall wide 3 high 3 law through joins end;row fff;row ffw;row fff;home 1,2;steps 1;leads ahead;"
      + "table t at 2,2 sits 2 plain legs 3 grip 4 eager 100;dancer plain legs 1 grip 9;snake 1,1 north";

  /** A stretched row of three that closes to a ring in the second beat. */
  private static final String RING = "hall wide 3 high 2 law round joins end;row fff;row fff;steps 3;leads right;"
      + "dancer plain legs 1 grip 9;dancer plain legs 1 grip 9;dancer plain legs 1 grip 9;snake 2,0 east";

  // ---- the hall

  private static void newObject() {
    promise = 1;
    SnakeRow x = new SnakeRow();
    due("trouble()", x.trouble(), 0);
    due("fault()", x.fault(), 0);
    due("where()", x.where(), -1);
    for (int i = 0; i <= 15; i++) due("size(" + i + ")", x.size(i), 0);
    refused(x, "many()", x.many(), 1);
    refused(x, "length()", x.length(), 1);
    refused(x, "over()", x.over(), 1);
    refused(x, "manyIn(99)", x.manyIn(99), 1);
    refused(x, "dance(99)", x.dance(99), 1);
    due("NONE", SnakeRow.NONE, -1);
  }

  private static void feeding() {
    promise = 2;
    SnakeRow x = new SnakeRow();
    refused(x, "hall(1)", x.hall(1), 2);
    due("feed", x.feed(0x68616c6c, 0x20202020, 0x20202020, 0x20202020, 0x20202020), 20);
    due("a feed that comes leaves TROUBLE", x.trouble(), 2);
    for (int i = 2; i <= 45; i++) due("feed " + i, x.feed(i, -i, 0, -1, 7), 20 * i);
    due("size(15)", x.size(15), 900);
    due("feed above 900", x.feed(1, 2, 3, 4, 5), -1);
    due("a feed that is refused leaves TROUBLE", x.trouble(), 2);
    due("size(15)", x.size(15), 900);
    // the first number's bytes are the first of the tape, the highest first: "hall" is read as far as the blank
    refused(x, "hall(20)", x.hall(20), 4);
    due("fault()", x.fault(), 1);
    due("where()", x.where(), 20);
    due("size(15)", x.size(15), 0);
    due("feed", x.feed(1, 2, 3, 4, 5), 20);
  }

  private static void hallTaken() {
    promise = 3;
    SnakeRow x = new SnakeRow();
    String text = HEAD + MEANS + ONE + ONE + "snake 1,0 east";
    Texts.put(x, text);
    int bytes = x.size(15);
    refused(x, "hall(-1)", x.hall(-1), 2);
    refused(x, "hall(more)", x.hall(bytes + 1), 2);
    due("THE TAPE stays", x.size(15), bytes);
    fine(x, "hall", x.hall(text.length()), 2);
    due("THE TAPE is empty", x.size(15), 0);
    fine(x, "many()", x.many(), 2);
    x.dance(1);
    x.seed(7);
    x.mark();
    due("size(13)", x.size(13), 1);
    due("size(14)", x.size(14), 1);
    Texts.put(x, "hall");
    refused(x, "hall(4)", x.hall(4), 4);
    due("THE TAPE is empty", x.size(15), 0);
    fine(x, "the HALL stays", x.many(), 2);
    due("BEAT stays", x.size(9), 1);
    due("SEED stays", x.size(10), 7);
    due("ACTS stay", x.size(13), 1);
    due("MARKS stay", x.size(14), 1);
    Texts.put(x, text);
    fine(x, "hall", x.hall(text.length()), 2);
    due("BEAT", x.size(9), 0);
    due("SEED", x.size(10), 0);
    due("ACTS", x.size(13), 0);
    due("MARKS", x.size(14), 0);
    refused(x, "undo()", x.undo(), 6);
    refused(x, "back(0)", x.back(0), 1);
    // blanks mean nothing, LINES come in many an order, digits may begin with 0, WORDS and WHOLES need no blank between
    due("many()", read("  hall wide 003high 02 law through joins behind ;"
        + "dancer plain legs 1 grip 0;leads told north,south;row sss;home 2,1;band 2,1 sound 9;row wfw;steps 0,1,2,3,0,1,2,3;"
        + "frame 40 0 at 0,0;table hal at 0,0 sits 9 aunt legs 9 grip 9 eager 0;snake 1,1 north;frame 0 0 at 1,1   ").many(), 1);
  }

  private static void hallFormFaults() {
    promise = 3;
    fault(1, "|");
    fault(1, "   |");
    fault(1, "|hallo");
    fault(1, "|abcdefghi");
    fault(1, "|Hall wide 3");
    fault(1, "|; hall");
    fault(1, "|3");
    fault(1, "hall|");
    fault(1, "hall   |");
    fault(1, "hall |high 3");
    fault(1, "hall wide |x");
    fault(1, "hall wide |1000 high 2");
    fault(1, "hall wide |\t3");
    fault(1, "hall wide 3|");
    fault(1, "hall wide 3 high 2 law |other");
    fault(1, "hall wide 3 high 2 law round joins |front");
    fault(1, "hall wide 3 high 2 law round joins end|,");
    fault(1, "hall wide 3 high 2 law round joins end |row fff");
    fault(1, "hall wide 3 high 2 law round joins end;|");
    fault(1, "hall wide 3 high 2 law round joins end; |;");
    for (String line : "hall row band home steps leads table dancer snake frame".split(" ")) fault(1, HEAD + "table |" + line + " at 0,0");
    fault(1, HEAD + "table |abcdefghi at 0,0");
    fault(1, HEAD + "table |3 at 0,0");
    fault(1, HEAD + "table a |on");
    fault(1, HEAD + "table a at 0|;");
    fault(1, HEAD + "table a at 0,0 sits 1 |tall");
    fault(1, HEAD + "band 0,0 |loud");
    fault(1, HEAD + "leads told|");
    fault(1, HEAD + "leads told |up");
    fault(1, HEAD + "leads told north,|;");
    fault(1, HEAD + "leads |north");
    fault(1, HEAD + "steps |x");
    fault(1, HEAD + "steps 1,|;");
    fault(1, HEAD + "steps 1 |2");
    fault(1, HEAD + "dancer |legs 1");
    fault(1, HEAD + "dancer plain legs 1 grip 1 |eager 3");
    fault(1, HEAD + ONE + "snake 0,0 |up");
    fault(1, HEAD + ONE + "frame 0 0 |0");
    fault(1, "hall wide 8 high 2 law round joins end;row |fffffffff");
    fault(1, "hall wide 3 high 2 law round joins end;row |123");
    fault(1, HEAD + MEANS + ONE + "snake 0,0 east;|");
  }

  private static void hallAgainAndBoundsFaults() {
    promise = 3;
    fault(3, HEAD + TABLE + "table |a at 1,0 sits 1");
    fault(3, HEAD + TABLE + "table b at 0,|0 sits 0");
    fault(3, HEAD + "|hall wide 9");
    fault(3, HEAD + "band 0,0 sound 1;|band 9");
    fault(3, HEAD + "home 0,0;|home 9");
    fault(3, HEAD + "steps 0;|steps 9");
    fault(3, HEAD + "leads ahead;|leads 9");
    fault(3, HEAD + ONE + "snake 0,0 east;|snake 9");
    fault(4, "hall wide |2 high");
    fault(4, "hall wide |9 high");
    fault(4, "hall wide 3 high |1");
    fault(4, "hall wide 3 high |7");
    fault(4, HEAD + "band |3,0");
    fault(4, HEAD + "band 0,|2");
    fault(4, HEAD + "band 0,0 sound |0");
    fault(4, HEAD + "band 0,0 sound |10");
    fault(4, HEAD + "home |3,0");
    fault(4, HEAD + "home 2,|2");
    fault(4, HEAD + "steps |4");
    fault(4, HEAD + "steps 0,0,0,0,0,0,0,0,|4");
    fault(4, HEAD + "table a at |3,0");
    fault(4, HEAD + "table a at 0,|2");
    fault(4, HEAD + "table a at 0,0 sits |0");
    fault(4, HEAD + "table a at 0,0 sits |10");
    fault(4, HEAD + "table a at 0,0 sits 1 plain legs |0");
    fault(4, HEAD + "table a at 0,0 sits 1 plain legs |10");
    fault(4, HEAD + "table a at 0,0 sits 1 plain legs 1 grip |10");
    fault(4, HEAD + "table a at 0,0 sits 1 plain legs 1 grip 1 eager |101");
    fault(4, HEAD + "dancer plain legs |0");
    fault(4, HEAD + "dancer plain legs |10");
    fault(4, HEAD + "dancer plain legs 1 grip |10");
    fault(4, HEAD + ONE + "snake |3,0 east");
    fault(4, HEAD + ONE + "snake 0,|2 east");
    fault(4, HEAD + ONE + "frame |41 0 at 0,0");
    fault(4, HEAD + "frame 0 |0 at 0,0;" + ONE);
    fault(4, HEAD + ONE + "frame 0 |1 at 0,0");
    fault(4, HEAD + ONE + "frame 0 0 at |3,0");
    fault(4, HEAD + ONE + "frame 0 0 at 0,|2");
  }

  private static void hallManyAndLacksFaults() {
    promise = 3;
    fault(5, HEAD + "|row fff");
    fault(5, HEAD + ONE + "snake 0,0 east;|row");
    fault(5, HEAD + Texts.times(8, ONE) + "|dancer");
    fault(5, HEAD + TABLE + TABLE.replace("a at 0", "b at 1") + TABLE.replace("a at 0", "c at 2")
        + TABLE.replace("a at 0,0", "d at 0,1") + "|table a");
    fault(5, HEAD + ONE + Texts.times(8, "frame 0 0 at 0,0;") + "|frame");
    fault(5, HEAD + "steps 0,1,2,3,0,1,2,3,|3");
    fault(5, HEAD + "leads told " + Texts.times(12, "north,") + "|west");
    for (String line : "row band home steps leads table dancer snake frame".split(" ")) {
      fault(6, "|" + line + " x");
      fault(6, "  |" + line);
    }
    fault(6, "hall wide 3 high 2 law round joins end;row fff;|table a");
    fault(6, "hall wide 3 high 2 law round joins end;row fff;" + ONE + "|snake 0,0 east");
    fault(6, HEAD + "|snake 0,0 east");
    fault(6, HEAD + ONE + "snake 0,0 east;|table a");
    fault(6, HEAD + ONE + "snake 0,0 east;|dancer plain");
    fault(6, HEAD + ONE + "steps 1;snake 0,0 east|");
    fault(6, HEAD + ONE + "leads ahead;snake 0,0 east  |");
    fault(6, HEAD + ONE + MEANS.substring(0, MEANS.length() - 1) + "|");
    fault(6, "hall wide 3 high 2 law round joins end|");
    // so much there is room for
    read(HEAD + ONE + "leads told " + Texts.times(11, "north,") + "west;steps 0,1,2,3,0,1,2,3;snake 0,0 east" + Texts.times(8, ";frame 0 0 at 0,0"));
    read("hall wide 8 high 2 law round joins end;row ffffffff;row ffffffff;" + Texts.times(8, ONE) + MEANS + "snake 7,1 east");
  }

  private static void hallWrongFaults() {
    promise = 3;
    fault(7, "hall wide 3 high 2 law round joins end;row |ff");
    fault(7, "hall wide 3 high 2 law round joins end;row |ffff");
    fault(7, "hall wide 3 high 2 law round joins end;row |fxf");
    fault(7, "hall wide 3 high 2 law round joins end;row |row");
    String walled = "hall wide 3 high 2 law round joins end;row wff;row fff;";
    fault(7, walled + "table a at 0,|0 sits");
    fault(7, walled + ONE + "snake 0,|0 east");
    fault(7, HEAD + TABLE + ONE + "snake 0,|0 up");
    fault(7, HEAD + ONE + ONE + "snake 0,0 |east");
    fault(7, HEAD + ONE + ONE + ONE + "snake 0,1 |south;" + MEANS);
    fault(7, walled + ONE + ONE + "snake 1,0 |east");
    fault(7, HEAD + TABLE + ONE + ONE + "snake 0,1 |south");
    fault(7, HEAD + ONE + Texts.times(3, ONE) + "snake 2,0 |east");
    // NAMES may be any other WORDS, and need no more than a letter's unlikeness
    read(HEAD + TABLE.replace("table a", "table az") + TABLE.replace("a at 0,0", "azz at 1,0") + TABLE.replace("a at 0,0", "at at 2,0")
        + TABLE.replace("a at 0,0", "zzzzzzzz at 0,1") + ONE + MEANS + "snake 1,1 west");
    // a band and a home may be told on a wall
    read(walled + "band 0,0 sound 1;home 0,0;" + ONE + MEANS + "snake 1,1 west");
  }

  private static void faultAndWhere() {
    promise = 4;
    SnakeRow x = new SnakeRow();
    Texts.put(x, "hall wide 9");
    x.hall(11);
    due("fault()", x.fault(), 4);
    promise = 5;
    due("where()", x.where(), 10);
    due("where() twice", x.where(), 10);
    x.size(0);
    x.feed(1, 1, 1, 1, 1);
    due("where() behind calls that can't be refused by a number", x.where(), 10);
    x.many();
    due("where() behind another refusal", x.where(), -1);
    promise = 4;
    due("fault() stays", x.fault(), 4);
    x.hall(999);
    due("fault() behind a refusal by 2", x.fault(), 4);
    promise = 5;
    due("where() behind a refusal by 2", x.where(), -1);
    promise = 4;
    Texts.put(x, " ");
    x.hall(40);
    due("fault()", x.fault(), 1);
    String text = HEAD + MEANS + ONE + "snake 0,0 east";
    Texts.put(x, text);
    fine(x, "hall", x.hall(text.length()), 1);
    due("fault() without one", x.fault(), 0);
    promise = 5;
    due("where() without one", x.where(), -1);
  }

  // ---- now

  private static void cells() {
    promise = 6;
    SnakeRow x = read("hall wide 4 high 2 law round joins end;row fsww;row ffss;" + MEANS
        + "table a at 1,1 sits 1 plain legs 1 grip 1 eager 1;table b at 3,1 sits 1 plain legs 1 grip 1 eager 1;" + ONE + "snake 0,0 east");
    fine(x, "cell(0,0)", x.cell(0, 0), 0);
    fine(x, "cell(1,0)", x.cell(1, 0), 1);
    fine(x, "cell(2,0)", x.cell(2, 0), 2);
    fine(x, "cell(1,1)", x.cell(1, 1), 3);
    fine(x, "cell(2,1)", x.cell(2, 1), 1);
    fine(x, "a table on stairs", x.cell(3, 1), 3);
    refused(x, "cell(4,0)", x.cell(4, 0), 1);
    refused(x, "cell(0,2)", x.cell(0, 2), 1);
    refused(x, "cell(-1,0)", x.cell(-1, 0), 1);
    refused(x, "cell(0,-1)", x.cell(0, -1), 1);
    x = new SnakeRow();
    refused(x, "cell without a HALL", x.cell(0, 0), 1);
  }

  private static void dancers() {
    promise = 7;
    SnakeRow x = read(CORNERS);
    fine(x, "many()", x.many(), 4);
    promise = 8;
    x.dance(2);
    // the way: 0 1 2 3 7 11 10 9, the front at its end, the others at 4, 3, 2
    long[][] want = {{0, 9, -2, 7, 0, 2, 9}, {1, 7, 2, 4, 0, 2, 9}, {2, 3, 0, 3, 2, 2, 8}, {3, 2, 0, 2, 3, 2, 7}};
    for (int i = 0; i < 4; i++) {
      for (int what = 0; what < 7; what++) fine(x, "dancer(" + i + "," + what + ")", x.dancer(i, what), want[i][what]);
    }
    refused(x, "dancer(4,0)", x.dancer(4, 0), 1);
    refused(x, "dancer(-1,0)", x.dancer(-1, 0), 1);
    refused(x, "dancer(0,7)", x.dancer(0, 7), 1);
    refused(x, "dancer(0,-1)", x.dancer(0, -1), 1);
    SnakeRow none = new SnakeRow();
    refused(none, "dancer without a HALL", none.dancer(0, 0), 1);
    promise = 9;
    fine(x, "stands(1,2)", x.stands(1, 2), 0);
    fine(x, "stands(3,1)", x.stands(3, 1), 1);
    fine(x, "stands(0,0)", x.stands(0, 0), -2);
    refused(x, "stands(4,0)", x.stands(4, 0), 1);
    refused(x, "stands(0,3)", x.stands(0, 3), 1);
    refused(none, "stands without a HALL", none.stands(0, 0), 1);
    // two in one CELL: the first from the front
    SnakeRow two = read(HEAD + TABLE.replace("eager 1", "eager 100") + ONE + "steps 0;leads ahead;snake 1,0 east");
    two.dance(1);
    due("who joined has the front's place", two.dancer(1, 2), -1);
    fine(two, "stands(1,0)", two.stands(1, 0), 0);
  }

  private static void wayAndCorners() {
    promise = 10;
    SnakeRow x = read(CORNERS);
    SnakeRow none = new SnakeRow();
    fine(x, "corners()", x.corners(), 0);
    x.dance(2);
    int[] way = {0, 1, 2, 3, 7, 11, 10, 9};
    for (int i = 0; i < way.length; i++) fine(x, "way(" + i + ")", x.way(i), way[i]);
    refused(x, "way(8)", x.way(8), 1);
    refused(x, "way(-1)", x.way(-1), 1);
    refused(none, "way without a HALL", none.way(0), 1);
    promise = 11;
    fine(x, "length()", x.length(), 8);
    refused(none, "length without a HALL", none.length(), 1);
    promise = 12;
    // the last one's place is 2; the way turns at 3 and at 5
    fine(x, "corners()", x.corners(), 2);
    x.letGo(3);
    // the last one stands at the corner itself
    fine(x, "corners()", x.corners(), 1);
    x.letGo(2);
    x.letGo(1);
    fine(x, "corners() of one", x.corners(), 0);
    refused(none, "corners without a HALL", none.corners(), 1);
    // back the same way is a corner, too
    SnakeRow folded = read("hall wide 3 high 2 law through joins end;row fff;row fff;dancer plain legs 1 grip 9;dancer plain legs 1 grip 9;"
        + "dancer plain legs 1 grip 9;steps 2;leads told south,north;snake 2,0 east");
    folded.dance(1);
    due("corners() there and back", folded.corners(), 2);
  }

  private static void seatsAndOver() {
    promise = 13;
    SnakeRow x = read(SOUTH);
    SnakeRow none = new SnakeRow();
    fine(x, "sits(0)", x.sits(0), 2);
    refused(x, "sits(1)", x.sits(1), 1);
    refused(x, "sits(-1)", x.sits(-1), 1);
    refused(none, "sits without a HALL", none.sits(0), 1);
    x.lead(4);
    x.dance(1);
    fine(x, "sits(0)", x.sits(0), 1);
    x.undo();
    fine(x, "sits(0)", x.sits(0), 2);
    promise = 14;
    fine(x, "over()", x.over(), 0);
    refused(none, "over without a HALL", none.over(), 1);
    x = read(RING);
    x.dance(1);
    fine(x, "over()", x.over(), 0);
    x.dance(1);
    fine(x, "over() by a RING", x.over(), 1);
    x = read("hall wide 8 high 2 law through joins end;row ffffffff;row ffffffff;steps 3;leads ahead;" + ONE + "snake 0,0 east");
    for (int i = 0; i < 3; i++) x.dance(20);
    x.dance(6);
    due("length()", x.length(), 199);
    fine(x, "over()", x.over(), 0);
    fine(x, "dance(20)", x.dance(20), 1);
    due("length()", x.length(), 202);
    due("BEATS come to nothing then", x.size(9), 67);
    fine(x, "over() by the WAY", x.over(), 2);
    x.undo();
    fine(x, "over()", x.over(), 0);
    // 200 CELLS are not too many
    x = read("hall wide 8 high 2 law through joins end;row ffffffff;row ffffffff;steps 1;leads ahead;" + ONE + "snake 0,0 east");
    for (int i = 0; i < 9; i++) x.dance(20);
    x.dance(19);
    due("length()", x.length(), 200);
    fine(x, "over()", x.over(), 0);
    x.dance(1);
    fine(x, "over()", x.over(), 2);
  }

  // ---- what will be

  private static void whoIsThere() {
    promise = 15;
    SnakeRow x = read(CORNERS);
    SnakeRow none = new SnakeRow();
    fine(x, "manyIn(0)", x.manyIn(0), 4);
    fine(x, "manyIn(4)", x.manyIn(4), 4);
    refused(x, "manyIn(-1)", x.manyIn(-1), 2);
    refused(x, "manyIn(41)", x.manyIn(41), 2);
    refused(none, "manyIn without a HALL", none.manyIn(41), 1);
    fine(x, "manyIn(40)", x.manyIn(40), 1);
    due("nothing is danced by it", x.size(9), 0);
    due("nothing is danced by it", x.length(), 4);
    SnakeRow t = read(SOUTH);
    t.lead(4);
    fine(t, "manyIn(1)", t.manyIn(1), 2);
    fine(t, "manyIn(2)", t.manyIn(2), 3);
    fine(t, "manyIn(9)", t.manyIn(9), 3);
  }

  private static void whereAndHowFar() {
    promise = 16;
    SnakeRow x = read(CORNERS);
    SnakeRow none = new SnakeRow();
    // behind 4 beats: the way 0 1 2 3 7 11 10 9 8 4 0 1; places 11, 6, 5, 3
    int[] cell = {1, 10, 11, 3};
    int[] ran = {8, 4, 4, 3};
    for (int i = 0; i < 4; i++) {
      promise = 16;
      fine(x, "at(" + i + ",4)", x.at(i, 4), cell[i]);
      promise = 17;
      fine(x, "ran(" + i + ",4)", x.ran(i, 4), ran[i]);
    }
    promise = 16;
    fine(x, "at(1,0)", x.at(1, 0), 2);
    fine(x, "at(4,4)", x.at(4, 4), -2);
    fine(x, "at(1,40)", x.at(1, 40), -2);
    refused(x, "at(-1,4)", x.at(-1, 4), 1);
    refused(x, "at(-1,41)", x.at(-1, 41), 1);
    refused(x, "at(0,41)", x.at(0, 41), 2);
    refused(x, "at(0,-1)", x.at(0, -1), 2);
    refused(none, "at without a HALL", none.at(0, 41), 1);
    promise = 17;
    fine(x, "ran(0,0)", x.ran(0, 0), 0);
    fine(x, "ran(9,4)", x.ran(9, 4), 0);
    fine(x, "ran by one who is out", x.ran(1, 40), 0);
    refused(x, "ran(-1,4)", x.ran(-1, 4), 1);
    refused(x, "ran(0,41)", x.ran(0, 41), 2);
    refused(none, "ran without a HALL", none.ran(0, 0), 1);
    x.dance(2);
    fine(x, "ran from NOW on alone", x.ran(0, 2), 4);
    // who changes places keeps his number
    x.undo();
    x.change(1, 3);
    fine(x, "at(3,0)", x.at(3, 0), 2);
    x.undo();
    promise = 18;
    fine(x, "runner(4)", x.runner(4), 0);
    fine(x, "runner(0)", x.runner(0), 0);
    refused(x, "runner(41)", x.runner(41), 2);
    refused(none, "runner without a HALL", none.runner(0), 1);
    SnakeRow r = read(CORNERS.replace("steps 2", "steps 2,0,0,0,0"));
    r.dance(1);
    fine(r, "runner(1)", r.runner(1), 1);
    promise = 19;
    fine(x, "widest(0)", x.widest(0), 0);
    fine(x, "widest(2)", x.widest(2), 2);
    fine(x, "widest(4)", x.widest(4), 4);
    refused(x, "widest(-1)", x.widest(-1), 2);
    refused(none, "widest without a HALL", none.widest(0), 1);
    fine(x, "widest(40) of one alone", x.widest(40), -2);
  }

  private static void tearing() {
    SnakeRow none = new SnakeRow();
    // the second's GAP is 1, 2, 3 behind the first three beats; he holds 2
    SnakeRow x = read(CORNERS.replaceFirst("grip 9;dancer plain legs 2 grip 9", "grip 9;dancer plain legs 2 grip 2"));
    promise = 20;
    fine(x, "torn(0)", x.torn(0), -2);
    fine(x, "torn(2)", x.torn(2), -2);
    fine(x, "torn(3)", x.torn(3), 2);
    fine(x, "torn(40)", x.torn(40), 2);
    refused(x, "torn(41)", x.torn(41), 2);
    refused(none, "torn without a HALL", none.torn(0), 1);
    promise = 21;
    fine(x, "tornBy(3)", x.tornBy(3), 1);
    refused(x, "tornBy(2)", x.tornBy(2), 6);
    refused(x, "tornBy(41)", x.tornBy(41), 2);
    refused(none, "tornBy without a HALL", none.tornBy(41), 1);
    promise = 15;
    fine(x, "manyIn(2)", x.manyIn(2), 4);
    fine(x, "he and all behind him are out", x.manyIn(3), 1);
    promise = 20;
    x.dance(2);
    fine(x, "from NOW on", x.torn(1), 0);
    // in the first BEAT the third is torn off, and the fourth with him; in the second the second one
    SnakeRow late = read("hall wide 8 high 2 law through joins end;row ffffffff;row ffffffff;steps 2;leads ahead;dancer child legs 1 grip 1;"
        + "dancer child legs 2 grip 0;dancer child legs 1 grip 0;dancer child legs 9 grip 9;snake 3,0 east");
    fine(late, "torn(5)", late.torn(5), 0);
    promise = 21;
    fine(late, "tornBy(5)", late.tornBy(5), 2);
    promise = 15;
    fine(late, "manyIn(5)", late.manyIn(5), 2);
  }

  private static void joining() {
    promise = 22;
    SnakeRow x = read(SOUTH);
    SnakeRow none = new SnakeRow();
    x.lead(4);
    fine(x, "joined(0)", x.joined(0), 0);
    fine(x, "joined(1)", x.joined(1), 1);
    fine(x, "joined(40)", x.joined(40), 2);
    refused(x, "joined(41)", x.joined(41), 2);
    refused(x, "joined(-1)", x.joined(-1), 2);
    refused(none, "joined without a HALL", none.joined(0), 1);
    x.dance(1);
    due("the next number", x.dancer(1, 0), 1);
    due("one place behind the last", x.dancer(1, 3), 0);
    due("his CELL", x.dancer(1, 1), 4);
    due("legs of the table", x.dancer(1, 5), 3);
    due("grip of the table", x.dancer(1, 6), 4);
    fine(x, "from NOW on", x.joined(9), 1);
    x.letGo(1);
    x.dance(1);
    due("a number is never given twice", x.dancer(1, 0), 2);
    // not more than 16, from four tables of nine, each asking once a beat
    SnakeRow full = read("hall wide 3 high 3 law through joins end;row fff;row fff;row fff;steps 0;leads ahead;"
        + "table a at 1,0 sits 9 plain legs 1 grip 1 eager 100;table b at 0,1 sits 9 aunt legs 1 grip 1 eager 100;"
        + "table c at 2,1 sits 9 child legs 1 grip 1 eager 100;table d at 1,2 sits 9 heavy legs 1 grip 1 eager 100;"
        + ONE + "snake 1,1 north");
    fine(full, "joined(1)", full.joined(1), 4);
    fine(full, "joined(4)", full.joined(4), 15);
    full.dance(5);
    due("many()", full.many(), 16);
    due("sits(2)", full.sits(2), 5);
    due("sits(3)", full.sits(3), 6);
    due("the second who joined", full.dancer(2, 4), 1);
    int seed = 0;
    for (int i = 0; i < 15; i++) seed = (75 * seed + 74) % 65537;
    due("one DRAW for each", full.size(10), seed);
    // behind who asked, at the place of the one who is there; the first from the front who stands beside asks
    String behind = "hall wide 5 high 2 law through joins behind;row fffff;row fffff;steps 0;leads ahead;"
        + "table a at 2,1 sits 3 child legs 7 grip 6 eager 100;" + Texts.times(4, ONE) + "snake 3,0 east";
    SnakeRow b = read(behind);
    b.dance(1);
    int[] numbers = {0, 1, 4, 2, 3};
    int[] places = {3, 2, 1, 1, 0};
    for (int i = 0; i < 5; i++) {
      due("dancer(" + i + ",0)", b.dancer(i, 0), numbers[i]);
      due("dancer(" + i + ",3)", b.dancer(i, 3), places[i]);
    }
    due("two have one place", b.dancer(3, 2), -1);
    SnakeRow e = read(behind.replace("joins behind", "joins end"));
    e.dance(1);
    due("at the end", e.dancer(4, 0), 4);
    due("at the WAY's beginning", e.dancer(4, 3), 0);
    // eager 0 asks, too, and no one comes
    SnakeRow lazy = read(behind.replace("eager 100", "eager 0"));
    lazy.dance(1);
    due("joins none", lazy.many(), 4);
    due("but a DRAW", lazy.size(10), 74);
    SnakeRow at = read(behind.replace("eager 100", "eager 74"));
    due("74 is not below 74", at.joined(1), 0);
    at = read(behind.replace("eager 100", "eager 75"));
    due("74 is below 75", at.joined(1), 1);
    // behind the last one there is none: as at the end
    SnakeRow last = read(behind.replace("a at 2,1", "a at 0,1"));
    last.dance(1);
    due("as at the end", last.dancer(4, 3), 0);
  }

  private static void closing() {
    promise = 23;
    SnakeRow x = read(RING);
    SnakeRow none = new SnakeRow();
    fine(x, "ring(0)", x.ring(0), -2);
    fine(x, "ring(1)", x.ring(1), -2);
    fine(x, "ring(2)", x.ring(2), 2);
    fine(x, "ring(40)", x.ring(40), 2);
    refused(x, "ring(41)", x.ring(41), 2);
    refused(none, "ring without a HALL", none.ring(41), 1);
    x.dance(1);
    fine(x, "ring(1) from NOW on", x.ring(1), 1);
    x.dance(5);
    fine(x, "ring(5) of a RING NOW", x.ring(5), -2);
    due("the BEAT ends at once: the third step is lost", x.length(), 8);
    due("none goes after", x.dancer(1, 3), 2);
    due("the front is where the last one stands", x.dancer(0, 1), x.dancer(2, 1));
    due("BEATS", x.size(9), 2);
    fine(x, "manyIn(40)", x.manyIn(40), 3);
    // two don't close to a ring: the one behind is in the way
    SnakeRow two = read(HEAD + ONE + ONE + "steps 1;leads told west,west;snake 1,0 east");
    due("by law round he stays", two.at(0, 1), 1);
    two = read((HEAD + ONE + ONE + "steps 1;leads told west,west;snake 1,0 east").replace("round", "through"));
    due("by law through he goes", two.at(0, 1), 0);
    due("no ring by law through", two.ring(2), -2);
    due("he looks whither he went", two.dance(1) * 0 + two.size(8), 3);
  }

  private static void leadersGo() {
    promise = 16;
    // ahead, right, left: the first that can be, of a row that looks east in the north of the hall
    String text = "hall wide 5 high 3 law round joins end;row fffff;row fffff;row fffff;steps 1;" + ONE;
    due("ahead", read(text + "leads ahead;snake 2,1 east").at(0, 1), 8);
    due("right", read(text + "leads right;snake 2,1 east").at(0, 1), 12);
    due("left", read(text + "leads left;snake 2,1 east").at(0, 1), 2);
    due("ahead, else to his right", read(text + "leads ahead;snake 2,2 south").at(0, 1), 11);
    due("ahead, else to his left", read(text + "leads ahead;snake 0,2 south").at(0, 1), 11);
    due("right, else ahead", read(text + "leads right;snake 2,2 east").at(0, 1), 13);
    due("left, else ahead", read(text + "leads left;snake 2,0 east").at(0, 1), 3);
    due("left, else to his right", read(text + "leads left;snake 4,0 east").at(0, 1), 9);
    due("right, else to his left", read(text + "leads right;snake 4,2 east").at(0, 1), 9);
    String alley = "hall wide 3 high 2 law through joins end;row ffw;row wwf;" + ONE + "steps 1;";
    for (String by : "ahead right left".split(" ")) due(by + ", back", read(alley + "leads " + by + ";snake 1,0 east").at(0, 1), 0);
    due("none can be", read(alley + "leads ahead;snake 2,1 east").at(0, 3), 5);
    // lot: of north, east, south, west that can be; the DRAW is 74, then 5624
    SnakeRow lot = read(text + "leads lot;snake 2,1 east");
    due("lot of four: 74 mod 4", lot.at(0, 1), 12);
    lot = read(text + "leads lot;snake 2,0 east");
    due("lot of three: 74 mod 3, east south west", lot.at(0, 1), 1);
    lot.dance(2);
    due("two DRAWS", lot.size(10), 5624);
    lot = read(alley + "leads lot;snake 1,0 east");
    lot.dance(1);
    due("of one a DRAW, too", lot.size(10), 74);
    lot = read(alley + "leads lot;snake 2,1 east");
    lot.dance(1);
    due("of none no DRAW", lot.size(10), 0);
    // home: the first to the north, east, south, west of those as near
    String homely = "hall wide 4 high 3 law through joins end;row ffff;row fwff;row ffff;" + ONE + "steps 1;leads home;";
    due("home", read(homely + "home 2,1;snake 0,1 east").at(0, 1), 0);
    due("home by the south", read(homely + "home 1,2;snake 0,1 north").at(0, 1), 8);
    due("home by the east", read(homely + "home 3,2;snake 0,0 north").at(0, 1), 1);
    due("at home", read(homely + "home 3,2;snake 3,2 north").at(0, 5), 11);
    due("no home told", read(homely + "snake 3,2 north").at(0, 5), 11);
    due("home is a wall", read(homely + "home 1,1;snake 3,2 north").at(0, 5), 11);
    due("home can't be come to", read(alley + "home 2,1;leads home;snake 1,0 east").at(0, 5), 1);
    // told: a SIDE that can't be is gone, too
    SnakeRow told = read(homely.replace("home;", "told west,north,east;") + "snake 0,2 north");
    due("west can't be", told.at(0, 1), 8);
    due("north", told.at(0, 2), 4);
    due("east is a wall", told.at(0, 3), 4);
    due("none are left", told.at(0, 9), 4);
  }

  private static final String STRAIGHT = "hall wide 8 high 2 law through joins end;row ffffffff;row ffffffff;steps 2,0;leads ahead;"
      + "dancer child legs 1 grip 9;";

  private static void jolts() {
    promise = 24;
    SnakeRow none = new SnakeRow();
    SnakeRow x = read(STRAIGHT + "dancer child legs 9 grip 9;dancer child legs 1 grip 9;dancer child legs 1 grip 9;snake 3,0 east");
    fine(x, "jolt(1,1)", x.jolt(1, 1), 0);
    fine(x, "jolt(1,2)", x.jolt(1, 2), 1);
    fine(x, "jolt(4,3)", x.jolt(4, 3), 0);
    refused(x, "jolt(1,0)", x.jolt(1, 0), 1);
    refused(x, "jolt(1,4)", x.jolt(1, 4), 1);
    refused(x, "jolt(9,-1)", x.jolt(9, -1), 1);
    refused(x, "jolt(0,1)", x.jolt(0, 1), 2);
    refused(x, "jolt(5,1)", x.jolt(5, 1), 2);
    refused(none, "jolt without a HALL", none.jolt(1, 1), 1);
    promise = 25;
    fine(x, "grows(1,1)", x.grows(1, 1), 1);
    fine(x, "grows(1,2)", x.grows(1, 2), -1);
    refused(x, "grows(1,3)", x.grows(1, 3), 1);
    refused(x, "grows(1,0)", x.grows(1, 0), 1);
    refused(x, "grows(9,0)", x.grows(9, 0), 1);
    refused(x, "grows(1,2147483647)", x.grows(1, Integer.MAX_VALUE), 1);
    refused(x, "grows(1,-2147483648)", x.grows(1, Integer.MIN_VALUE), 1);
    refused(x, "grows(0,1)", x.grows(0, 1), 2);
    refused(x, "grows(5,1)", x.grows(5, 1), 2);
    refused(none, "grows without a HALL", none.grows(1, 1), 1);
    SnakeRow even = read(STRAIGHT + "dancer child legs 9 grip 9;dancer child legs 9 grip 9;snake 3,0 east");
    fine(even, "grows alike", even.grows(2, 1), 0);
    SnakeRow weak = read(STRAIGHT + "dancer child legs 9 grip 9;dancer child legs 1 grip 0;snake 3,0 east");
    fine(weak, "grows, one out", weak.grows(1, 1), -2);
    promise = 24;
    fine(weak, "jolt(1,1)", weak.jolt(1, 1), 0);
    fine(weak, "jolt(1,2) out", weak.jolt(1, 2), -2);
    // who is nearer by standing: the GAP that is there NOW is not counted, those behind the beats are
    SnakeRow late = read(STRAIGHT + "dancer child legs 1 grip 9;snake 3,0 east");
    late.dance(1);
    due("GAP NOW", late.dancer(1, 2), 1);
    late.letGo(1);
    fine(late, "manyIn(1)", late.manyIn(1), 1);
    SnakeRow still = read(STRAIGHT.replace("steps 2,0", "steps 2,0,0,0,0,0,0,0") + "dancer child legs 2 grip 9;snake 3,0 east");
    fine(still, "the steps are lost, the BEATS go on", still.jolt(1, 1), 0);
    SnakeRow aunt = read(STRAIGHT.replace("row ffffffff;row", "row ffffffss;row") + "dancer aunt legs 9 grip 9;snake 3,0 east");
    fine(aunt, "out on stairs, too", aunt.jolt(1, 1), -2);
    auntBetween();
    // told SIDES are not gone while the front stands
    SnakeRow told = read(STRAIGHT.replace("ahead", "told east,east").replace("steps 2,0", "steps 2") + "dancer child legs 1 grip 9;snake 3,0 east");
    fine(told, "told SIDES stay", told.jolt(4, 1), 1);
  }

  /** An aunt goes out on stairs by the JOLT, and the one behind her stays: nothing GROWS from one who is out. */
  private static void auntBetween() {
    SnakeRow x = read("hall wide 8 high 2 law through joins end;row fffsffff;row ffffffff;steps 1;leads ahead;dancer plain legs 9 grip 9;"
        + "dancer aunt legs 9 grip 9;dancer child legs 9 grip 9;dancer child legs 9 grip 9;snake 3,1 east");
    fine(x, "who there is behind 13 BEATS", x.manyIn(13), 3);
    promise = 24;
    fine(x, "jolt(1,1), she is out", x.jolt(1, 1), -2);
    fine(x, "jolt(1,2), he stays", x.jolt(1, 2), 1);
    promise = 25;
    fine(x, "grows(1,1) from one who is out", x.grows(1, 1), -2);
    fine(x, "grows(1,2) behind her", x.grows(1, 2), -1);
    promise = 24;
  }

  // ---- what is best

  private static void holding() {
    promise = 26;
    SnakeRow none = new SnakeRow();
    due("one alone", read(STRAIGHT + "snake 3,0 east").holds(), 3);
    due("legs 1", read(STRAIGHT + "dancer child legs 1 grip 1;snake 3,0 east").holds(), 1);
    // by 2 the GAP is 12 behind 12 BEATS, by 3 it is so, too, if he has 2 legs
    due("legs 1, grip 9", read(STRAIGHT + "dancer child legs 1 grip 9;snake 3,0 east").holds(), 1);
    due("legs 2, grip 9", read(STRAIGHT + "dancer child legs 2 grip 9;snake 3,0 east").holds(), 2);
    due("legs 3, grip 0", read(STRAIGHT + "dancer child legs 3 grip 0;snake 3,0 east").holds(), 3);
    SnakeRow x = read(STRAIGHT + "dancer plain legs 1 grip 0;snake 3,0 east");
    fine(x, "none does: a corner", x.holds(), -2);
    due("nothing is danced by it", x.size(9), 0);
    refused(none, "holds without a HALL", none.holds(), 1);
  }

  private static void orders() {
    SnakeRow none = new SnakeRow();
    SnakeRow x = read(STRAIGHT.replace("steps 2,0", "steps 2")
        + "dancer child legs 1 grip 0;dancer child legs 9 grip 9;dancer child legs 9 grip 9;snake 3,0 east");
    promise = 27;
    fine(x, "order()", x.order(), 1);
    promise = 28;
    fine(x, "orderAt(1)", x.orderAt(1), 2);
    fine(x, "orderAt(2)", x.orderAt(2), 3);
    fine(x, "orderAt(3)", x.orderAt(3), 1);
    refused(x, "orderAt(0)", x.orderAt(0), 1);
    refused(x, "orderAt(4)", x.orderAt(4), 1);
    refused(none, "orderAt without a HALL", none.orderAt(1), 1);
    // by places NOW, not by numbers
    x.change(1, 2);
    fine(x, "orderAt(1)", x.orderAt(1), 1);
    fine(x, "orderAt(3)", x.orderAt(3), 2);
    promise = 27;
    refused(none, "order without a HALL", none.order(), 1);
    SnakeRow all = read(STRAIGHT + "dancer child legs 9 grip 9;dancer child legs 9 grip 9;snake 3,0 east");
    fine(all, "none is out", all.order(), 0);
    promise = 28;
    fine(all, "of like ones the first", all.orderAt(1), 1);
    fine(all, "of like ones the first", all.orderAt(2), 2);
    promise = 27;
    SnakeRow eight = read(STRAIGHT + Texts.times(7, "dancer child legs 9 grip 9;") + "snake 7,0 east");
    refused(eight, "order() of eight", eight.order(), 3);
    promise = 28;
    refused(eight, "orderAt(1) of eight", eight.orderAt(1), 3);
    refused(eight, "orderAt(8) of eight", eight.orderAt(8), 1);
    eight.letGo(7);
    promise = 27;
    fine(eight, "order() of seven", eight.order(), 0);
    SnakeRow alone = read(STRAIGHT + "snake 3,0 east");
    fine(alone, "order() of one", alone.order(), 0);
    promise = 28;
    refused(alone, "orderAt(1) of one", alone.orderAt(1), 1);
    // aunts that are out on stairs are not counted
    promise = 27;
    SnakeRow aunt = read(STRAIGHT.replace("row ffffffff;row", "row ffffffss;row") + "dancer aunt legs 9 grip 9;snake 3,0 east");
    fine(aunt, "TORN alone", aunt.order(), 0);
    fine(aunt, "though she is out", aunt.manyIn(12), 1);
  }

  private static void bestLeader() {
    promise = 29;
    SnakeRow none = new SnakeRow();
    SnakeRow x = read(SOUTH);
    fine(x, "leader(0)", x.leader(0), 0);
    fine(x, "leader(1)", x.leader(1), 4);
    due("he still leads ahead", x.size(7), 0);
    refused(x, "leader(41)", x.leader(41), 2);
    refused(x, "leader(-1)", x.leader(-1), 2);
    refused(none, "leader without a HALL", none.leader(41), 1);
    SnakeRow right = read(SOUTH.replace("ffw", "fff"));
    fine(right, "leader(1)", right.leader(1), 1);
    SnakeRow left = read(SOUTH.replace("t at 2,2", "t at 0,0"));
    fine(left, "ahead and left come beside it", left.leader(1), 0);
    left = read(SOUTH.replace("t at 2,2", "t at 0,2").replace("home 1,2", "home 2,0"));
    fine(left, "left alone comes beside it", left.leader(1), 2);
    // only to the west one comes beside the table: lot and told go there, but they are not among the four
    String west = "hall wide 5 high 3 law through joins end;row fffff;row fffff;row fffff;steps 1;"
        + "table t at 0,1 sits 1 plain legs 1 grip 9 eager 100;dancer plain legs 1 grip 9;snake 2,1 east;leads ";
    SnakeRow lot = read(west + "lot");
    lot.seed(3);
    fine(lot, "by lot one joins", lot.manyIn(1), 2);
    fine(lot, "lot is not among them", lot.leader(1), 0);
    SnakeRow told = read(west + "told west");
    fine(told, "as told one joins", told.manyIn(1), 2);
    fine(told, "told is not among them", told.leader(1), 0);
  }

  private static void plans() {
    promise = 30;
    SnakeRow none = new SnakeRow();
    SnakeRow x = read(SOUTH);
    fine(x, "plan(1)", x.plan(1), 2);
    fine(x, "plan(2)", x.plan(2), 3);
    fine(x, "plan(5)", x.plan(5), 3);
    refused(x, "plan(0)", x.plan(0), 2);
    refused(x, "plan(6)", x.plan(6), 2);
    refused(none, "plan without a HALL", none.plan(6), 1);
    promise = 31;
    fine(x, "planAt(1,0)", x.planAt(1, 0), 2);
    fine(x, "planAt(2,0)", x.planAt(2, 0), 2);
    fine(x, "planAt(2,1)", x.planAt(2, 1), 0);
    refused(x, "planAt(2,2)", x.planAt(2, 2), 1);
    refused(x, "planAt(2,-1)", x.planAt(2, -1), 1);
    refused(x, "planAt(6,9)", x.planAt(6, 9), 2);
    refused(x, "planAt(0,0)", x.planAt(0, 0), 2);
    refused(none, "planAt without a HALL", none.planAt(6, 9), 1);
    SnakeRow like = read(STRAIGHT + "snake 3,0 east");
    for (int i = 0; i < 5; i++) fine(like, "of like ones the first", like.planAt(5, i), 0);
    due("he still leads ahead", like.size(7), 0);
    // two steps a BEAT take two SIDES
    SnakeRow two = read(SOUTH.replace("steps 1", "steps 2").replace("snake 1,1", "snake 1,0"));
    promise = 30;
    fine(two, "plan(2)", two.plan(2), 3);
    promise = 31;
    fine(two, "planAt(2,0)", two.planAt(2, 0), 2);
    fine(two, "planAt(2,1)", two.planAt(2, 1), 2);
  }

  private static void means() {
    promise = 32;
    SnakeRow none = new SnakeRow();
    // from 65,536 the DRAW is 65,536, from 0 it is 74
    SnakeRow x = read(HEAD + TABLE.replace("eager 1", "eager 50") + ONE + "steps 0;leads ahead;snake 1,0 east");
    fine(x, "mean(0,1,1)", x.mean(0, 1, 1), 1);
    fine(x, "mean(65536,1,1)", x.mean(65536, 1, 1), 2);
    fine(x, "mean(65536,2,1)", x.mean(65536, 2, 1), 3);
    fine(x, "mean(5,20,0)", x.mean(5, 20, 0), 20);
    due("SEED stays", x.size(10), 0);
    refused(x, "mean(-1,1,1)", x.mean(-1, 1, 1), 2);
    refused(x, "mean(65537,1,1)", x.mean(65537, 1, 1), 2);
    refused(x, "mean(0,0,1)", x.mean(0, 0, 1), 2);
    refused(x, "mean(0,21,1)", x.mean(0, 21, 1), 2);
    refused(x, "mean(0,1,-1)", x.mean(0, 1, -1), 2);
    refused(x, "mean(0,1,41)", x.mean(0, 1, 41), 2);
    refused(none, "mean without a HALL", none.mean(-1, 0, 41), 1);
  }

  // ---- the band, the film

  private static void bandAndKicks() {
    SnakeRow none = new SnakeRow();
    String text = "hall wide 5 high 2 law through joins end;row fffff;row ffffw;steps 1,0,2;leads ahead;" + Texts.times(3, ONE) + "snake 2,0 east";
    SnakeRow x = read(text + ";band 4,1 sound 2");
    SnakeRow quiet = read(text);
    promise = 33;
    fine(x, "late(4,1)", x.late(4, 1), 0);
    fine(x, "late(3,1)", x.late(3, 1), 0);
    fine(x, "late(3,0)", x.late(3, 0), 1);
    fine(x, "late(0,0)", x.late(0, 0), 2);
    refused(x, "late(5,0)", x.late(5, 0), 1);
    refused(x, "late(0,-1)", x.late(0, -1), 1);
    refused(quiet, "late without a band", quiet.late(0, 0), 1);
    refused(none, "late without a HALL", none.late(0, 0), 1);
    promise = 34;
    fine(x, "kicks()", x.kicks(), 0);
    x.dance(1);
    fine(x, "kicks()", x.kicks(), 1);
    x.dance(1);
    fine(x, "kicks()", x.kicks(), 0);
    x.dance(1);
    fine(x, "kicks()", x.kicks(), 0);
    for (int i = 0; i < 3; i++) x.undo();
    refused(none, "kicks without a HALL", none.kicks(), 1);
    promise = 35;
    // late by (4 - x + 1) / 2 rounded down: 1, 2, 2 for x 2, 1, 0; three steps are told
    fine(x, "inTime()", x.inTime(), 0);
    x.band(2, 0);
    // 0, 0, 1
    fine(x, "inTime()", x.inTime(), 2);
    refused(quiet, "inTime without a band", quiet.inTime(), 6);
    refused(none, "inTime without a HALL", none.inTime(), 1);
    promise = 36;
    // from 1,0 all hear it at once
    fine(x, "bestBand()", x.bestBand(), 1);
    due("the band stays", x.size(11), 2);
    refused(quiet, "bestBand without a band", quiet.bestBand(), 6);
    refused(none, "bestBand without a HALL", none.bestBand(), 1);
    // no wall: all hear it as well from 0, but there is one
    SnakeRow walled = read("hall wide 3 high 2 law through joins end;row wff;row fff;steps 1;leads ahead;" + ONE + "snake 1,0 east;band 2,1 sound 9");
    fine(walled, "bestBand()", walled.bestBand(), 1);
    // late by 3 is in time with three steps told
    promise = 35;
    SnakeRow three = read("hall wide 8 high 2 law through joins end;row ffffffff;row ffffffff;steps 1,0,2;leads ahead;" + ONE + "snake 3,0 east;band 0,0 sound 1");
    fine(three, "inTime()", three.inTime(), 1);
  }

  private static void wayOut() {
    promise = 37;
    SnakeRow none = new SnakeRow();
    String text = "hall wide 4 high 3 law through joins end;row fffw;row ffff;row ffsf;" + MEANS + ONE + ONE + "snake 1,0 west;";
    SnakeRow x = read(text + "home 3,1");
    // one stands at 2,0
    fine(x, "out()", x.out(), 3);
    x = read(text + "home 2,0");
    fine(x, "someone stands at home", x.out(), -2);
    x.letGo(1);
    fine(x, "none does", x.out(), 1);
    due("over stairs", read(text + "home 3,2").out(), 4);
    x = read(text + "home 3,0");
    fine(x, "home is a wall", x.out(), -2);
    x = read(text + "home 1,0");
    fine(x, "at home", x.out(), 0);
    x = read(text.substring(0, text.length() - 1));
    refused(x, "no home", x.out(), 6);
    refused(none, "out without a HALL", none.out(), 1);
    x = read("hall wide 4 high 2 law through joins end;row ffff;row wfww;" + MEANS + "table a at 2,0 sits 1 plain legs 1 grip 1 eager 1;"
        + ONE + "snake 1,0 west;home 3,0");
    fine(x, "a table is in the way", x.out(), -2);
    x = read("hall wide 5 high 2 law through joins end;row fffff;row wwwww;" + MEANS + ONE + ONE + "snake 2,0 west;home 4,0");
    fine(x, "one who stands is in the way", x.out(), -2);
  }

  private static void film() {
    promise = 38;
    SnakeRow none = new SnakeRow();
    String text = "hall wide 5 high 3 law through joins end;row fffff;row fffff;row fffff;steps 1;home 2,1;leads told west;"
        + ONE + "dancer child legs 1 grip 0;snake 2,1 east";
    due("no frames", read(text).fits(), 31);
    // ahead goes to 3,1, right to 2,2, left to 2,0, by lot (74 mod 4) to 2,2; home stays
    due("by 3,1", read(text + ";frame 1 0 at 3,1").fits(), 1);
    due("by 2,2", read(text + ";frame 1 0 at 2,2").fits(), 2 + 8);
    due("by 2,0", read(text + ";frame 1 0 at 2,0").fits(), 4);
    due("by 2,1", read(text + ";frame 1 0 at 2,1").fits(), 16);
    due("the beginning", read(text + ";frame 0 1 at 1,1").fits(), 31);
    due("two frames", read(text + ";frame 1 0 at 2,2;frame 0 0 at 2,1;frame 1 1 at 2,1").fits(), 2 + 8);
    due("against one another", read(text + ";frame 1 0 at 2,2;frame 1 0 at 2,1").fits(), 0);
    SnakeRow x = read(text + ";frame 1 0 at 2,2");
    x.dance(3);
    x.seed(9);
    fine(x, "from the text on, SEED 0", x.fits(), 10);
    due("one who is out", read(text.replace("steps 1", "steps 2") + ";frame 1 1 at 2,1").fits(), 0);
    refused(none, "fits without a HALL", none.fits(), 1);
    // behind forty BEATS
    due("frame 40", read(text + ";frame 40 0 at 2,1").fits() & 16, 16);
  }

  // ---- acts

  private static void dancing() {
    promise = 39;
    SnakeRow none = new SnakeRow();
    SnakeRow x = read(CORNERS);
    fine(x, "dance(2)", x.dance(2), 4);
    due("BEAT", x.size(9), 2);
    due("one ACT", x.size(13), 1);
    due("look", x.size(8), 3);
    refused(x, "dance(0)", x.dance(0), 2);
    refused(x, "dance(21)", x.dance(21), 2);
    refused(none, "dance without a HALL", none.dance(0), 1);
    fine(x, "dance(20)", x.dance(20), 1);
    SnakeRow ring = read(RING);
    fine(ring, "dance(20)", ring.dance(20), 3);
    due("BEATS come to nothing then", ring.size(9), 2);
    refused(ring, "dance(1) of a RING", ring.dance(1), 5);
    refused(ring, "dance(0) of a RING", ring.dance(0), 2);
    due("a refused one is no ACT", ring.size(13), 1);
    // aunts who stand on stairs are out, but the front
    SnakeRow aunt = read(("hall wide 5 high 2 law through joins end;row ffssf;row fffff;steps 1,0,0;leads ahead;"
        + "dancer aunt legs 1 grip 9;dancer aunt legs 1 grip 9;dancer plain legs 1 grip 9;snake 2,0 east"));
    due("at the beginning she stays", aunt.many(), 3);
    fine(aunt, "dance(1)", aunt.dance(1), 2);
    due("the front stays, the aunt behind is out", aunt.dancer(1, 0), 2);
    due("his GAP", aunt.dancer(1, 2), 1);
    due("the plain one stays", aunt.dance(2), 2);
  }

  private static void leading() {
    promise = 40;
    SnakeRow none = new SnakeRow();
    SnakeRow x = read(SOUTH);
    fine(x, "lead(4)", x.lead(4));
    due("LEADER", x.size(7), 4);
    refused(x, "lead(4)", x.lead(4), 5);
    refused(x, "lead(5)", x.lead(5), 1);
    refused(x, "lead(-1)", x.lead(-1), 1);
    refused(none, "lead without a HALL", none.lead(0), 1);
    due("one ACT", x.size(13), 1);
    due("he goes home", x.at(0, 1), 7);
    fine(x, "undo()", x.undo());
    due("LEADER", x.size(7), 0);
    SnakeRow ring = read(RING);
    ring.dance(2);
    fine(ring, "lead(0) though it is OVER", ring.lead(0));
    SnakeRow told = read(SOUTH.replace("leads ahead", "leads told west"));
    due("told", told.size(7), 5);
    refused(told, "lead(5)", told.lead(5), 1);
  }

  private static void changing() {
    promise = 41;
    SnakeRow none = new SnakeRow();
    SnakeRow x = read(CORNERS);
    x.dance(2);
    fine(x, "change(1,3)", x.change(1, 3));
    int[] number = {0, 3, 2, 1}, place = {7, 4, 3, 2}, kind = {0, 3, 2, 0}, grip = {9, 7, 8, 9};
    for (int i = 0; i < 4; i++) {
      due("dancer(" + i + ",0)", x.dancer(i, 0), number[i]);
      due("dancer(" + i + ",3)", x.dancer(i, 3), place[i]);
      due("dancer(" + i + ",4)", x.dancer(i, 4), kind[i]);
      due("dancer(" + i + ",6)", x.dancer(i, 6), grip[i]);
    }
    fine(x, "change(2,1)", x.change(2, 1));
    due("dancer(1,0)", x.dancer(1, 0), 2);
    refused(x, "change(0,1)", x.change(0, 1), 1);
    refused(x, "change(1,0)", x.change(1, 0), 1);
    refused(x, "change(1,1)", x.change(1, 1), 1);
    refused(x, "change(1,4)", x.change(1, 4), 1);
    refused(x, "change(4,1)", x.change(4, 1), 1);
    refused(x, "change(-1,1)", x.change(-1, 1), 1);
    refused(none, "change without a HALL", none.change(1, 2), 1);
    due("ACTS", x.size(13), 3);
  }

  private static void lettingGo() {
    promise = 42;
    SnakeRow none = new SnakeRow();
    SnakeRow x = read(CORNERS);
    fine(x, "letGo(2)", x.letGo(2));
    due("many()", x.many(), 3);
    due("dancer(2,0)", x.dancer(2, 0), 3);
    due("his GAP", x.dancer(2, 2), 1);
    refused(x, "letGo(0)", x.letGo(0), 5);
    refused(x, "letGo(3)", x.letGo(3), 1);
    refused(x, "letGo(-1)", x.letGo(-1), 1);
    refused(none, "letGo without a HALL", none.letGo(0), 1);
    due("ACTS", x.size(13), 1);
  }

  private static void bandMoved() {
    promise = 43;
    SnakeRow none = new SnakeRow();
    String text = "hall wide 3 high 2 law through joins end;row wff;row fff;" + TABLE.replace("0,0", "0,1") + MEANS + ONE + "snake 1,0 east";
    SnakeRow x = read(text + ";band 2,1 sound 1");
    fine(x, "band(0,1) on a table", x.band(0, 1));
    due("size(11)", x.size(11), 3);
    due("late(0,1)", x.late(0, 1), 0);
    refused(x, "band(0,1)", x.band(0, 1), 5);
    refused(x, "band(0,0)", x.band(0, 0), 1);
    refused(x, "band(3,0)", x.band(3, 0), 1);
    refused(x, "band(0,2)", x.band(0, 2), 1);
    refused(none, "band without a HALL", none.band(0, 0), 1);
    due("ACTS", x.size(13), 1);
    x.undo();
    due("size(11)", x.size(11), 5);
    SnakeRow quiet = read(text);
    refused(quiet, "band(1,0)", quiet.band(1, 0), 6);
    refused(quiet, "band(0,0)", quiet.band(0, 0), 1);
  }

  private static void seeding() {
    promise = 44;
    SnakeRow none = new SnakeRow();
    SnakeRow x = read(SOUTH);
    fine(x, "seed(65536)", x.seed(65536));
    due("SEED", x.size(10), 65536);
    fine(x, "seed(0)", x.seed(0));
    refused(x, "seed(65537)", x.seed(65537), 2);
    refused(x, "seed(-1)", x.seed(-1), 2);
    refused(none, "seed without a HALL", none.seed(-1), 1);
    due("no ACT", x.size(13), 0);
    due("SEED", x.size(10), 0);
    SnakeRow lot = read(SOUTH.replace("leads ahead", "leads lot"));
    lot.seed(1);
    lot.dance(1);
    due("the DRAW", lot.size(10), 149);
  }

  private static void undoing() {
    promise = 45;
    SnakeRow none = new SnakeRow();
    refused(none, "undo without a HALL", none.undo(), 6);
    SnakeRow x = read(CORNERS);
    refused(x, "undo()", x.undo(), 6);
    for (int i = 0; i < 12; i++) x.lead(1 + i % 2);
    due("10 are kept", x.size(13), 10);
    for (int i = 0; i < 10; i++) fine(x, "undo() " + i, x.undo());
    refused(x, "undo()", x.undo(), 6);
    due("as behind two ACTS", x.size(7), 2);
    due("ACTS", x.size(13), 0);
    // SEED, too, is as ahead of it
    x.dance(2);
    x.seed(77);
    x.letGo(1);
    x.seed(78);
    x.undo();
    due("SEED", x.size(10), 77);
    due("many()", x.many(), 4);
    x.undo();
    due("SEED", x.size(10), 0);
    due("BEAT", x.size(9), 0);
    due("length()", x.length(), 4);
    due("way(3)", x.way(3), 3);
    due("look", x.size(8), 1);
    SnakeRow told = read(SOUTH.replace("leads ahead", "leads told south,north"));
    told.dance(1);
    told.undo();
    due("told SIDES are there again", told.at(0, 1), 7);
    due("who sits, too", told.sits(0), 2);
    due("numbers, too", told.dance(1) * 0 + told.dancer(1, 0), 1);
  }

  private static void marking() {
    promise = 46;
    SnakeRow none = new SnakeRow();
    refused(none, "mark without a HALL", none.mark(), 1);
    SnakeRow x = read(CORNERS);
    fine(x, "mark()", x.mark(), 0);
    x.dance(1);
    x.seed(5);
    fine(x, "mark()", x.mark(), 1);
    x.letGo(1);
    fine(x, "mark()", x.mark(), 2);
    refused(x, "mark()", x.mark(), 3);
    due("MARKS", x.size(14), 3);
    promise = 47;
    refused(none, "back without a HALL", none.back(0), 1);
    refused(x, "back(3)", x.back(3), 1);
    refused(x, "back(-1)", x.back(-1), 1);
    due("ACTS", x.size(13), 2);
    fine(x, "back(0)", x.back(0));
    due("BEAT", x.size(9), 0);
    due("SEED", x.size(10), 0);
    due("ACTS", x.size(13), 0);
    due("MARKS stay", x.size(14), 3);
    refused(x, "undo()", x.undo(), 6);
    fine(x, "back(2)", x.back(2));
    due("many()", x.many(), 3);
    due("SEED", x.size(10), 5);
    fine(x, "back(1)", x.back(1));
    due("many()", x.many(), 4);
    x.dance(3);
    fine(x, "back(1)", x.back(1));
    due("BEAT", x.size(9), 1);
    promise = 46;
    refused(x, "mark()", x.mark(), 3);
    // an undone ACT leaves the MARKS alone
    x.dance(1);
    x.undo();
    due("MARKS", x.size(14), 3);
  }

  // ---- what is told

  private static void told() {
    promise = 48;
    SnakeRow none = new SnakeRow();
    SnakeRow x = read(HEAD + TABLE + "table b at 2,1 sits 3 heavy legs 4 grip 5 eager 67;" + ONE + "steps 3,0,2;leads ahead;snake 1,0 east");
    int[] first = {0, 0, 1, 1, 1}, second = {5, 3, 4, 5, 67};
    for (int i = 0; i < 5; i++) {
      fine(x, "table(0," + i + ")", x.table(0, i), first[i]);
      fine(x, "table(1," + i + ")", x.table(1, i), second[i]);
    }
    refused(x, "table(2,0)", x.table(2, 0), 1);
    refused(x, "table(-1,0)", x.table(-1, 0), 1);
    refused(x, "table(0,5)", x.table(0, 5), 1);
    refused(x, "table(0,-1)", x.table(0, -1), 1);
    refused(none, "table without a HALL", none.table(0, 0), 1);
    promise = 49;
    fine(x, "steps(0)", x.steps(0), 3);
    fine(x, "steps(1)", x.steps(1), 0);
    fine(x, "steps(2)", x.steps(2), 2);
    refused(x, "steps(3)", x.steps(3), 1);
    refused(x, "steps(-1)", x.steps(-1), 1);
    refused(none, "steps without a HALL", none.steps(0), 1);
  }

  private static void ledOnStairs() {
    promise = 50;
    SnakeRow none = new SnakeRow();
    due("led(0) without a HALL", Texts.led(none, 0), -99);
    SnakeRow x = read("hall wide 4 high 2 law through joins end;row sfss;row ffff;" + MEANS + Texts.times(4, ONE) + "snake 3,0 east");
    refused(x, "dancer(9,0)", x.dancer(9, 0), 1);
    due("led(0)", Texts.led(x, 0), 0);
    due("led(1)", Texts.led(x, 1), 1);
    due("led(2)", Texts.led(x, 2), 3);
    due("led(3)", Texts.led(x, 3), -99);
    due("led(-1)", Texts.led(x, -1), -99);
    due("led(99)", Texts.led(x, 99), -99);
    due("TROUBLE stays", x.trouble(), 1);
    x.change(1, 2);
    due("led(1)", Texts.led(x, 1), 2);
    // on a table that stands on stairs nobody stands
    SnakeRow floor = read(SOUTH);
    due("led(0) on floor", Texts.led(floor, 0), -99);
  }

  private static void sizes() {
    promise = 51;
    SnakeRow x = read("hall wide 4 high 2 law round joins behind;row sfss;row ffff;steps 1,2,3;leads left;home 3,1;band 2,1 sound 3;"
        + "table a at 0,1 sits 1 plain legs 1 grip 1 eager 1;" + ONE + ONE + "snake 2,0 east;frame 0 0 at 0,0;frame 1 0 at 0,0");
    int[] want = {4, 2, 1, 1, 1, 3, 2, 2, 1, 0, 0, 6, 7, 0, 0, 0};
    for (int i = 0; i <= 15; i++) due("size(" + i + ")", x.size(i), want[i]);
    refused(x, "dancer(9,0)", x.dancer(9, 0), 1);
    due("size(16)", x.size(16), -1);
    due("size(-1)", x.size(-1), -1);
    due("TROUBLE stays", x.trouble(), 1);
    x.dance(1);
    x.seed(3);
    x.mark();
    x.feed(1, 2, 3, 4, 5);
    due("look", x.size(8), 1);
    due("BEAT", x.size(9), 1);
    due("SEED", x.size(10), 3);
    due("ACTS", x.size(13), 1);
    due("MARKS", x.size(14), 1);
    due("THE TAPE", x.size(15), 20);
    SnakeRow bare = read("hall wide 3 high 2 law through joins end;row fff;row fff;" + MEANS + ONE + "snake 2,0 north");
    int[] less = {3, 2, 0, 0, 0, 1, 0, 0, 0, 0, 0, -2, -2, 0, 0, 0};
    for (int i = 0; i <= 15; i++) due("size(" + i + ")", bare.size(i), less[i]);
  }

  private static void troubles() {
    promise = 52;
    SnakeRow x = new SnakeRow();
    due("trouble()", x.trouble(), 0);
    x.undo();
    due("6", x.trouble(), 6);
    due("trouble() twice", x.trouble(), 6);
    x.many();
    due("1", x.trouble(), 1);
    x.hall(1);
    due("2", x.trouble(), 2);
    x.hall(0);
    due("4", x.trouble(), 4);
    x.size(3);
    x.fault();
    x.where();
    x.feed(1, 1, 1, 1, 1);
    Texts.led(x, 0);
    due("4 stays", x.trouble(), 4);
    x = read(RING);
    due("0", x.trouble(), 0);
    x.dance(20);
    x.dance(1);
    due("5", x.trouble(), 5);
    for (int i = 0; i < 4; i++) x.mark();
    due("3", x.trouble(), 3);
    x.many();
    due("0", x.trouble(), 0);
  }
}
