import java.util.function.Function;
import java.util.function.ToIntBiFunction;

/**
 * Each call that may be refused, at its bounds: what it answers, the TROUBLE behind it, and that nothing else is
 * changed by it: all that can be asked of the object answers as of a twin that the refused call wasn't made of.
 */
public final class SnakeRowRefusals {
  private interface Maker { SnakeRow make(); }

  private interface Call { long of(SnakeRow x); }

  private static final int LEAST = Integer.MIN_VALUE;
  private static final int MOST = Integer.MAX_VALUE;
  private static int wrong = 0;
  private static int promise = 0;

  public static void main(String[] args) {
    feeding();
    readingHalls();
    askingNow();
    askingAhead();
    askingBest();
    askingBandAndFilm();
    acting();
    keeping();
    askingTold();
    askedAndUnchanged();
    actsUndone();
    readAnew();
    System.out.println(wrong == 0 ? "all refusals are as due" : wrong + " refusals are not as due");
    if (wrong != 0) System.exit(1);
  }

  // ---- the objects that are asked

  private static final String ROOM = "hall wide 5 high 4 law through joins behind;row fffff;row fsfff;row ffffw;row fffff;";
  private static final String RICH = ROOM + "band 4,0 sound 2;home 4,3;steps 1,0,2;leads ahead;"
      + "table a at 2,2 sits 3 plain legs 2 grip 6 eager 60;table b at 0,0 sits 2 child legs 3 grip 5 eager 30;"
      + "dancer plain legs 2 grip 9;dancer aunt legs 2 grip 9;dancer child legs 2 grip 9;dancer heavy legs 3 grip 9;"
      + "snake 4,1 east;frame 1 0 at 4,2;frame 0 1 at 3,1";
  private static final String BARE = "hall wide 3 high 2 law through joins end;row fff;row fff;steps 1;leads ahead;"
      + "dancer plain legs 1 grip 9;snake 1,0 east";
  private static final String RING = "hall wide 3 high 2 law round joins end;row fff;row fff;steps 3;leads right;"
      + "dancer plain legs 1 grip 9;dancer plain legs 1 grip 9;dancer plain legs 1 grip 9;snake 2,0 east";

  private static SnakeRow read(String text) {
    SnakeRow x = new SnakeRow();
    Texts.put(x, text);
    if (x.hall(text.length()) < 0) tell("a sound text is refused: " + text);
    return x;
  }

  private static SnakeRow none() {
    SnakeRow x = new SnakeRow();
    Texts.put(x, "something that stands on the tape, forty");
    return x;
  }

  private static SnakeRow bare() { return read(BARE); }

  private static SnakeRow fresh() { return read(RICH); }

  private static SnakeRow ring() {
    SnakeRow x = read(RING);
    x.dance(2);
    return x;
  }

  private static SnakeRow eight() {
    return read("hall wide 8 high 2 law through joins end;row ffffffff;row ffffffff;steps 1;leads ahead;"
        + Texts.times(8, "dancer child legs 9 grip 9;") + "snake 7,0 east");
  }

  /** Much has come to pass: ACTS to undo, three MARKS, bytes on the tape, a SEED. */
  private static SnakeRow busy() {
    SnakeRow x = lessBusy();
    Texts.put(x, "forty bytes that wait on the tape for it");
    return x;
  }

  private static SnakeRow lessBusy() {
    SnakeRow x = read(RICH);
    x.dance(2);
    x.mark();
    x.seed(4711);
    x.lead(1);
    x.mark();
    x.change(1, 2);
    x.letGo(3);
    x.mark();
    x.band(1, 1);
    x.dance(1);
    x.seed(99);
    return x;
  }

  // ---- all that can be asked

  /** Some 450 calls at the most: an object may be asked 512. */
  private static String everything(SnakeRow x) {
    StringBuilder all = new StringBuilder("fault " + x.fault() + " sizes");
    int[] size = new int[16];
    for (int i = 0; i <= 15; i++) all.append(' ').append(size[i] = x.size(i));
    all.append(" told");
    for (int i = 0; i < size[4]; i++) {
      for (int what = 0; what < 5; what++) all.append(' ').append(x.table(i, what));
    }
    for (int i = 0; i < size[5]; i++) all.append(' ').append(x.steps(i));
    all.append(" cells");
    for (int y = 0; y < size[1]; y++) {
      for (int i = 0; i < size[0]; i++) all.append(' ').append(x.cell(i, y));
    }
    all.append(now(x, size[4])).append(" ahead");
    for (int i = 0; i < 6; i++) all.append(' ').append(x.at(i, 5));
    all.append(" best ").append(x.holds()).append(' ').append(x.plan(1)).append(' ').append(x.fits());
    all.append(' ').append(x.bestBand()).append(' ').append(x.inTime()).append(' ').append(x.out());
    for (int i = 0; i < 11 && x.undo(); i++) all.append("\n undone").append(now(x, size[4]));
    for (int i = 0; i < 3 && x.back(i); i++) all.append("\n back").append(now(x, size[4]));
    return all.toString();
  }

  private static String now(SnakeRow x, int tables) {
    int many = x.many(), length = x.length();
    StringBuilder all = new StringBuilder(" now " + many + ' ' + length + ' ' + x.over() + ' ' + x.corners());
    for (int i = 7; i <= 14; i++) all.append(' ').append(x.size(i));
    for (int i = 0; i < many; i++) all.append(' ').append(x.dancer(i, 0)).append(' ').append(x.dancer(i, 3)).append(' ').append(x.dancer(i, 4));
    all.append(" way ").append(x.way(0)).append(' ').append(x.way(length - 1));
    for (int i = 0; i < tables; i++) all.append(" sits ").append(x.sits(i));
    return all.append(" later ").append(x.joined(9)).append(' ').append(x.at(0, 9)).toString();
  }

  // ---- how it is told

  private static void tell(String what) {
    wrong++;
    System.out.println("promise " + promise + ": " + what);
  }

  private static void due(String call, long got, long want) {
    if (got != want) tell(call + " answered " + got + ", due is " + want);
  }

  private static void same(String call, SnakeRow x, SnakeRow twin) {
    String got = everything(x), want = everything(twin);
    if (!got.equals(want)) tell(call + " changed something:\n" + got + "\n  due is\n" + want);
  }

  private static void refused(String call, Maker maker, Call asked, long answer, int trouble) {
    SnakeRow x = maker.make();
    due(call, asked.of(x), answer);
    due("trouble() behind " + call, x.trouble(), trouble);
    due("where() behind " + call, x.where(), -1);
    same(call, x, maker.make());
  }

  private static void none(String call, Maker maker, Call asked, int trouble) { refused(call, maker, asked, -1, trouble); }

  private static void no(String call, Maker maker, Call asked, int trouble) { refused(call, maker, asked, 0, trouble); }

  private static long bit(boolean b) { return b ? 1 : 0; }

  /** Times that are no t: 2; without a HALL any is refused by 1. */
  private static void wrongTimes(String name, ToIntBiFunction<SnakeRow, Integer> call) {
    for (int t : new int[] {-1, 41, LEAST, MOST}) {
      none(name + "(" + t + ")", SnakeRowRefusals::busy, x -> call.applyAsInt(x, t), 2);
      none(name + "(" + t + ") without a HALL", SnakeRowRefusals::none, x -> call.applyAsInt(x, t), 1);
    }
    for (int t : new int[] {0, 40}) {
      none(name + "(" + t + ") without a HALL", SnakeRowRefusals::none, x -> call.applyAsInt(x, t), 1);
      SnakeRow x = busy();
      call.applyAsInt(x, t);
      if (x.trouble() == 2) tell(name + "(" + t + ") is refused");
    }
  }

  private static final int[][] BESIDE_THE_HALL = {{-1, 0}, {5, 0}, {0, -1}, {0, 4}, {LEAST, 0}, {MOST, 0}, {0, LEAST}, {0, MOST},
      {MOST, MOST}, {LEAST, LEAST}, {-5, 1}, {5, 3}, {1 << 30, 1 << 30}};

  private static void cells(String name, Function<int[], Call> call, long answer) {
    for (int[] at : BESIDE_THE_HALL) {
      refused(name + "(" + at[0] + "," + at[1] + ")", SnakeRowRefusals::busy, call.apply(at), answer, 1);
    }
    refused(name + "(0,0) without a HALL", SnakeRowRefusals::none, call.apply(new int[] {0, 0}), answer, 1);
  }

  // ---- the hall

  private static void feeding() {
    promise = 2;
    String text = BARE + Texts.times(900, " ").substring(BARE.length());
    SnakeRow x = new SnakeRow();
    Texts.put(x, text.substring(0, 880));
    due("size(15)", x.size(15), 880);
    due("the last feed that has room", x.feed(0x20202020, 0x20202020, 0x20202020, 0x20202020, 0x20202020), 900);
    x.many();
    due("feed without room", x.feed(LEAST, MOST, 0, -1, 0x68616c6c), -1);
    due("none comes", x.size(15), 900);
    due("TROUBLE stays by it", x.trouble(), 1);
    due("the tape is as it was", x.hall(900), 1);
    due("there is room again", x.feed(1, 2, 3, 4, 5), 20);
    SnakeRow held = busy(), twin = busy();
    for (int i = 0; i < 50; i++) held.feed(i, i, i, i, i);
    for (int i = 0; i < 43; i++) twin.feed(i, i, i, i, i);
    same("feed, refused seven times", held, twin);
    // a refused feed leaves the place of a FAULT alone
    x = none();
    x.hall(40);
    int place = x.where();
    for (int i = 0; i < 46; i++) x.feed(0, 0, 0, 0, 0);
    due("where() behind a refused feed", x.where(), place);
    due("trouble() behind a refused feed", x.trouble(), 4);
  }

  private static void readingHalls() {
    promise = 3;
    for (int n : new int[] {-1, 41, LEAST, MOST, -40}) {
      none("hall(" + n + ")", SnakeRowRefusals::busy, x -> x.hall(n), 2);
      none("hall(" + n + ") without a HALL", SnakeRowRefusals::none, x -> x.hall(n), 2);
    }
    none("hall(1) of an empty tape", SnakeRow::new, x -> x.hall(1), 2);
    // by 4 the tape is empty, and the HALL stays, with all that has come to pass in it
    for (int n : new int[] {0, 1, 39, 40}) {
      SnakeRow x = busy(), twin = lessBusy();
      due("hall(" + n + ")", x.hall(n), -1);
      due("trouble()", x.trouble(), 4);
      due("fault()", x.fault(), 1);
      due("where()", x.where(), 0);
      due("THE TAPE", x.size(15), 0);
      twin.hall(0);
      same("hall(" + n + ") of something else", x, twin);
    }
    // a text that fails at its very end leaves the HALL alone, too
    SnakeRow x = lessBusy(), twin = lessBusy();
    String late = "hall wide 8 high 2 law round joins end;row ssssssss;row ssssssss;band 0,0 sound 9;home 1,1;steps 3;leads lot;"
        + "dancer heavy legs 9 grip 0;table z at 0,1 sits 9 aunt legs 9 grip 9 eager 100;snake 7,0 east;frame 41";
    Texts.put(x, late);
    due("hall", x.hall(late.length()), -1);
    due("where()", x.where(), late.length() - 2);
    twin.hall(0);
    due("fault() of it", x.fault(), 4);
    SnakeRow lateTwin = lessBusy();
    Texts.put(lateTwin, "hall wide 9");
    lateTwin.hall(11);
    same("hall, refused at its end", x, lateTwin);
    promise = 4;
    x = new SnakeRow();
    due("fault() of a new object", x.fault(), 0);
    x.hall(5);
    due("fault() behind a refusal by 2", x.fault(), 0);
    x.hall(0);
    due("fault()", x.fault(), 1);
    due("trouble()", x.trouble(), 4);
    x.hall(1);
    due("fault() behind a refusal by 2", x.fault(), 1);
    Texts.put(x, BARE);
    x.hall(BARE.length());
    due("fault() of a sound text", x.fault(), 0);
    promise = 5;
    due("where() of a sound text", x.where(), -1);
    x.hall(0);
    due("where()", x.where(), 0);
    x.fault();
    x.size(99);
    Texts.led(x, 0);
    x.trouble();
    x.feed(1, 1, 1, 1, 1);
    due("where() behind calls that no number is told of", x.where(), 0);
    x.undo();
    due("where() behind another refusal", x.where(), -1);
    x.hall(0);
    due("where()", x.where(), 0);
    x.many();
    due("where() behind a call that wasn't refused", x.where(), -1);
  }

  // ---- now

  private static void askingNow() {
    promise = 6;
    cells("cell", at -> x -> x.cell(at[0], at[1]), -1);
    promise = 7;
    none("many", SnakeRowRefusals::none, SnakeRow::many, 1);
    promise = 8;
    for (int i : new int[] {-1, busy().many(), LEAST, MOST}) none("dancer(" + i + ",0)", SnakeRowRefusals::busy, x -> x.dancer(i, 0), 1);
    for (int what : new int[] {-1, 7, LEAST, MOST}) none("dancer(0," + what + ")", SnakeRowRefusals::busy, x -> x.dancer(0, what), 1);
    none("dancer(0,0)", SnakeRowRefusals::none, x -> x.dancer(0, 0), 1);
    promise = 9;
    cells("stands", at -> x -> x.stands(at[0], at[1]), -1);
    promise = 10;
    for (int i : new int[] {-1, busy().length(), LEAST, MOST}) none("way(" + i + ")", SnakeRowRefusals::busy, x -> x.way(i), 1);
    none("way(0)", SnakeRowRefusals::none, x -> x.way(0), 1);
    promise = 11;
    none("length", SnakeRowRefusals::none, SnakeRow::length, 1);
    promise = 12;
    none("corners", SnakeRowRefusals::none, SnakeRow::corners, 1);
    promise = 13;
    for (int i : new int[] {-1, 2, LEAST, MOST}) none("sits(" + i + ")", SnakeRowRefusals::busy, x -> x.sits(i), 1);
    none("sits(0) without tables", SnakeRowRefusals::bare, x -> x.sits(0), 1);
    none("sits(0)", SnakeRowRefusals::none, x -> x.sits(0), 1);
    promise = 14;
    none("over", SnakeRowRefusals::none, SnakeRow::over, 1);
  }

  // ---- what will be

  private static void askingAhead() {
    promise = 15;
    wrongTimes("manyIn", (x, t) -> x.manyIn(t));
    promise = 16;
    wrongTimes("at", (x, t) -> x.at(0, t));
    promise = 17;
    wrongTimes("ran", (x, t) -> x.ran(0, t));
    for (int i : new int[] {-1, LEAST}) {
      for (int t : new int[] {0, 40, 41, -1}) {
        promise = 16;
        none("at(" + i + "," + t + ")", SnakeRowRefusals::busy, x -> x.at(i, t), 1);
        promise = 17;
        none("ran(" + i + "," + t + ")", SnakeRowRefusals::busy, x -> x.ran(i, t), 1);
      }
    }
    promise = 16;
    SnakeRow x = busy();
    due("at(2147483647,3)", x.at(MOST, 3), -2);
    due("trouble()", x.trouble(), 0);
    promise = 17;
    due("ran(2147483647,3)", x.ran(MOST, 3), 0);
    due("trouble()", x.trouble(), 0);
    promise = 18;
    wrongTimes("runner", (y, t) -> y.runner(t));
    promise = 19;
    wrongTimes("widest", (y, t) -> y.widest(t));
    promise = 20;
    wrongTimes("torn", (y, t) -> y.torn(t));
    promise = 21;
    wrongTimes("tornBy", (y, t) -> y.tornBy(t));
    for (int t : new int[] {0, 40}) none("tornBy(" + t + ") of one who can't be torn", SnakeRowRefusals::bare, y -> y.tornBy(t), 6);
    promise = 22;
    wrongTimes("joined", (y, t) -> y.joined(t));
    promise = 23;
    wrongTimes("ring", (y, t) -> y.ring(t));
    int many = busy().many();
    for (int i : new int[] {-1, 0, many, LEAST, MOST}) {
      for (int k : new int[] {0, 1, 4, 5}) {
        promise = 24;
        none("jolt(" + k + "," + i + ")", SnakeRowRefusals::busy, y -> y.jolt(k, i), 1);
        promise = 25;
        none("grows(" + k + "," + i + ")", SnakeRowRefusals::busy, y -> y.grows(k, i), 1);
      }
    }
    none("grows(1) of the last one", SnakeRowRefusals::busy, y -> y.grows(1, many - 1), 1);
    none("grows(9) of the last one", SnakeRowRefusals::busy, y -> y.grows(9, many - 1), 1);
    for (int k : new int[] {-1, 0, 5, LEAST, MOST}) {
      promise = 24;
      none("jolt(" + k + ",1)", SnakeRowRefusals::busy, y -> y.jolt(k, 1), 2);
      none("jolt(" + k + ") of the last one", SnakeRowRefusals::busy, y -> y.jolt(k, many - 1), 2);
      promise = 25;
      none("grows(" + k + ",1)", SnakeRowRefusals::busy, y -> y.grows(k, 1), 2);
    }
    promise = 24;
    none("jolt(1,1)", SnakeRowRefusals::none, y -> y.jolt(1, 1), 1);
    none("jolt(9,1)", SnakeRowRefusals::none, y -> y.jolt(9, 1), 1);
    none("jolt(1,1) of one alone", SnakeRowRefusals::bare, y -> y.jolt(1, 1), 1);
    promise = 25;
    none("grows(1,1)", SnakeRowRefusals::none, y -> y.grows(1, 1), 1);
    none("grows(9,1)", SnakeRowRefusals::none, y -> y.grows(9, 1), 1);
  }

  // ---- what is best

  private static void askingBest() {
    promise = 26;
    none("holds", SnakeRowRefusals::none, SnakeRow::holds, 1);
    promise = 27;
    none("order", SnakeRowRefusals::none, SnakeRow::order, 1);
    none("order of eight", SnakeRowRefusals::eight, SnakeRow::order, 3);
    promise = 28;
    for (int i : new int[] {-1, 0, busy().many(), LEAST, MOST}) {
      none("orderAt(" + i + ")", SnakeRowRefusals::busy, x -> x.orderAt(i), 1);
      none("orderAt(" + i + ")", SnakeRowRefusals::none, x -> x.orderAt(i), 1);
    }
    for (int i : new int[] {-1, 0, 8, MOST}) none("orderAt(" + i + ") of eight", SnakeRowRefusals::eight, x -> x.orderAt(i), 1);
    for (int i : new int[] {1, 7}) none("orderAt(" + i + ") of eight", SnakeRowRefusals::eight, x -> x.orderAt(i), 3);
    none("orderAt(1)", SnakeRowRefusals::none, x -> x.orderAt(1), 1);
    promise = 29;
    wrongTimes("leader", (x, t) -> x.leader(t));
    for (int d : new int[] {-1, 0, 6, 41, LEAST, MOST}) {
      promise = 30;
      none("plan(" + d + ")", SnakeRowRefusals::busy, x -> x.plan(d), 2);
      none("plan(" + d + ")", SnakeRowRefusals::none, x -> x.plan(d), 1);
      promise = 31;
      for (int i : new int[] {-1, 0, 9}) none("planAt(" + d + "," + i + ")", SnakeRowRefusals::busy, x -> x.planAt(d, i), 2);
      none("planAt(" + d + ",0)", SnakeRowRefusals::none, x -> x.planAt(d, 0), 1);
    }
    promise = 30;
    none("plan(1)", SnakeRowRefusals::none, x -> x.plan(1), 1);
    promise = 31;
    for (int i : new int[] {-1, 1, LEAST, MOST}) none("planAt(1," + i + ")", SnakeRowRefusals::busy, x -> x.planAt(1, i), 1);
    for (int i : new int[] {-1, 5}) none("planAt(5," + i + ")", SnakeRowRefusals::busy, x -> x.planAt(5, i), 1);
    none("planAt(1,0)", SnakeRowRefusals::none, x -> x.planAt(1, 0), 1);
    none("planAt(1,1)", SnakeRowRefusals::none, x -> x.planAt(1, 1), 1);
    promise = 32;
    int[][] numbers = {{-1, 1, 1}, {65537, 1, 1}, {LEAST, 1, 1}, {MOST, 1, 1}, {0, 0, 1}, {0, 21, 1}, {0, -1, 1}, {0, LEAST, 1}, {0, MOST, 1},
        {0, 1, -1}, {0, 1, 41}, {0, 1, LEAST}, {0, 1, MOST}};
    for (int[] n : numbers) {
      none("mean(" + n[0] + "," + n[1] + "," + n[2] + ")", SnakeRowRefusals::busy, x -> x.mean(n[0], n[1], n[2]), 2);
      none("mean(" + n[0] + "," + n[1] + "," + n[2] + ")", SnakeRowRefusals::none, x -> x.mean(n[0], n[1], n[2]), 1);
    }
    none("mean(0,1,1)", SnakeRowRefusals::none, x -> x.mean(0, 1, 1), 1);
  }

  // ---- the band, the film

  private static void askingBandAndFilm() {
    promise = 33;
    cells("late", at -> x -> x.late(at[0], at[1]), -1);
    none("late without a band", SnakeRowRefusals::bare, x -> x.late(0, 0), 1);
    none("late beside a hall without a band", SnakeRowRefusals::bare, x -> x.late(9, 9), 1);
    promise = 34;
    none("kicks", SnakeRowRefusals::none, SnakeRow::kicks, 1);
    promise = 35;
    none("inTime", SnakeRowRefusals::none, SnakeRow::inTime, 1);
    none("inTime without a band", SnakeRowRefusals::bare, SnakeRow::inTime, 6);
    promise = 36;
    none("bestBand", SnakeRowRefusals::none, SnakeRow::bestBand, 1);
    none("bestBand without a band", SnakeRowRefusals::bare, SnakeRow::bestBand, 6);
    promise = 37;
    none("out", SnakeRowRefusals::none, SnakeRow::out, 1);
    none("out without a home", SnakeRowRefusals::bare, SnakeRow::out, 6);
    promise = 38;
    none("fits", SnakeRowRefusals::none, SnakeRow::fits, 1);
  }

  // ---- acts

  private static void acting() {
    promise = 39;
    for (int n : new int[] {-1, 0, 21, LEAST, MOST}) {
      none("dance(" + n + ")", SnakeRowRefusals::busy, x -> x.dance(n), 2);
      none("dance(" + n + ") of a RING", SnakeRowRefusals::ring, x -> x.dance(n), 2);
      none("dance(" + n + ")", SnakeRowRefusals::none, x -> x.dance(n), 1);
    }
    for (int n : new int[] {1, 20}) {
      none("dance(" + n + ") of a RING", SnakeRowRefusals::ring, x -> x.dance(n), 5);
      none("dance(" + n + ")", SnakeRowRefusals::none, x -> x.dance(n), 1);
    }
    promise = 40;
    for (int leader : new int[] {-1, 5, 6, LEAST, MOST}) no("lead(" + leader + ")", SnakeRowRefusals::busy, x -> bit(x.lead(leader)), 1);
    no("lead(1), who leads", SnakeRowRefusals::busy, x -> bit(x.lead(1)), 5);
    no("lead(0), who leads from the text on", SnakeRowRefusals::fresh, x -> bit(x.lead(0)), 5);
    for (int leader : new int[] {0, 4}) no("lead(" + leader + ")", SnakeRowRefusals::none, x -> bit(x.lead(leader)), 1);
    promise = 41;
    int many = busy().many();
    int[][] pairs = {{0, 1}, {1, 0}, {0, 0}, {1, 1}, {many - 1, many - 1}, {1, many}, {many, 1}, {-1, 1}, {1, -1}, {LEAST, 1}, {1, LEAST},
        {MOST, 1}, {1, MOST}, {many, many}};
    for (int[] p : pairs) no("change(" + p[0] + "," + p[1] + ")", SnakeRowRefusals::busy, x -> bit(x.change(p[0], p[1])), 1);
    no("change(1,2)", SnakeRowRefusals::none, x -> bit(x.change(1, 2)), 1);
    no("change(1,1) of one alone", SnakeRowRefusals::bare, x -> bit(x.change(1, 1)), 1);
    promise = 42;
    for (int i : new int[] {-1, many, LEAST, MOST}) no("letGo(" + i + ")", SnakeRowRefusals::busy, x -> bit(x.letGo(i)), 1);
    no("letGo(0)", SnakeRowRefusals::busy, x -> bit(x.letGo(0)), 5);
    no("letGo(0) of one alone", SnakeRowRefusals::bare, x -> bit(x.letGo(0)), 5);
    for (int i : new int[] {0, 1}) no("letGo(" + i + ")", SnakeRowRefusals::none, x -> bit(x.letGo(i)), 1);
    promise = 43;
    cells("band", at -> x -> bit(x.band(at[0], at[1])), 0);
    no("band on a wall", SnakeRowRefusals::busy, x -> bit(x.band(4, 2)), 1);
    no("band where it is", SnakeRowRefusals::busy, x -> bit(x.band(1, 1)), 5);
    no("band, none told", SnakeRowRefusals::bare, x -> bit(x.band(0, 0)), 6);
    no("band, none told, beside the hall", SnakeRowRefusals::bare, x -> bit(x.band(3, 0)), 1);
    promise = 44;
    for (int v : new int[] {-1, 65537, LEAST, MOST}) {
      no("seed(" + v + ")", SnakeRowRefusals::busy, x -> bit(x.seed(v)), 2);
      no("seed(" + v + ")", SnakeRowRefusals::none, x -> bit(x.seed(v)), 1);
    }
    no("seed(0)", SnakeRowRefusals::none, x -> bit(x.seed(0)), 1);
  }

  private static SnakeRow allUndone() {
    SnakeRow x = busy();
    for (int i = 0; i < 6; i++) {
      if (!x.undo()) tell("an ACT of six can't be undone");
    }
    return x;
  }

  private static SnakeRow goneBack() {
    SnakeRow x = busy();
    x.back(1);
    return x;
  }

  private static void keeping() {
    promise = 45;
    no("undo", SnakeRowRefusals::none, x -> bit(x.undo()), 6);
    no("undo, no ACT", SnakeRowRefusals::fresh, x -> bit(x.undo()), 6);
    no("undo, all undone", SnakeRowRefusals::allUndone, x -> bit(x.undo()), 6);
    no("undo, gone back", SnakeRowRefusals::goneBack, x -> bit(x.undo()), 6);
    promise = 46;
    none("mark", SnakeRowRefusals::none, SnakeRow::mark, 1);
    none("a fourth mark", SnakeRowRefusals::busy, SnakeRow::mark, 3);
    none("a fourth mark, gone back", SnakeRowRefusals::goneBack, SnakeRow::mark, 3);
    promise = 47;
    for (int m : new int[] {-1, 3, LEAST, MOST}) no("back(" + m + ")", SnakeRowRefusals::busy, x -> bit(x.back(m)), 1);
    no("back(0), no MARK", SnakeRowRefusals::fresh, x -> bit(x.back(0)), 1);
    no("back(0)", SnakeRowRefusals::none, x -> bit(x.back(0)), 1);
    SnakeRow x = fresh();
    due("the first MARK", x.mark(), 0);
    due("back to one that isn't there", bit(x.back(1)), 0);
    due("the second MARK", x.mark(), 1);
    due("back to it", bit(x.back(1)), 1);
    due("back to one that isn't there", bit(x.back(2)), 0);
    due("the third MARK", x.mark(), 2);
    due("back to it", bit(x.back(2)), 1);
    due("a fourth", x.mark(), -1);
    due("trouble()", x.trouble(), 3);
  }

  // ---- what is told

  private static void askingTold() {
    promise = 48;
    for (int t : new int[] {-1, 2, LEAST, MOST}) none("table(" + t + ",0)", SnakeRowRefusals::busy, x -> x.table(t, 0), 1);
    for (int what : new int[] {-1, 5, LEAST, MOST}) none("table(0," + what + ")", SnakeRowRefusals::busy, x -> x.table(0, what), 1);
    none("table(0,0) without tables", SnakeRowRefusals::bare, x -> x.table(0, 0), 1);
    none("table(0,0)", SnakeRowRefusals::none, x -> x.table(0, 0), 1);
    promise = 49;
    for (int i : new int[] {-1, 3, LEAST, MOST}) none("steps(" + i + ")", SnakeRowRefusals::busy, x -> x.steps(i), 1);
    none("steps(0)", SnakeRowRefusals::none, x -> x.steps(0), 1);
    promise = 50;
    int onStairs = 0;
    for (int i = 0; i < 5; i++) onStairs += Texts.led(busy(), i) >= 0 ? 1 : 0;
    for (int i : new int[] {-1, onStairs, LEAST, MOST}) {
      SnakeRow x = busy();
      x.many();
      due("led(" + i + ")", Texts.led(x, i), -99);
      due("TROUBLE stays", x.trouble(), 0);
      same("led(" + i + ")", x, busy());
    }
    due("led(0) without a HALL", Texts.led(none(), 0), -99);
    promise = 51;
    for (int what : new int[] {-1, 16, LEAST, MOST}) {
      SnakeRow x = busy();
      x.dance(0);
      due("size(" + what + ")", x.size(what), -1);
      due("TROUBLE stays", x.trouble(), 2);
      same("size(" + what + ")", x, busy());
      due("size(" + what + ") without a HALL", none().size(what), -1);
    }
    for (int what = 0; what < 15; what++) due("size(" + what + ") without a HALL", none().size(what), 0);
    due("size(15) without a HALL", none().size(15), 40);
  }

  /** What only asks changes nothing but TROUBLE, and that to 0. */
  private static void askedAndUnchanged() {
    Call[] calls = {x -> x.cell(4, 3), SnakeRow::many, x -> x.dancer(0, 6), x -> x.stands(0, 0), x -> x.way(0), SnakeRow::length,
        SnakeRow::corners, x -> x.sits(1), SnakeRow::over, x -> x.manyIn(40), x -> x.at(0, 40), x -> x.ran(0, 40), x -> x.runner(40),
        x -> x.widest(40), x -> x.torn(40), x -> x.joined(40), x -> x.ring(40), x -> x.jolt(4, 1), x -> x.jolt(1, 2), x -> x.grows(4, 1),
        SnakeRow::holds, SnakeRow::order, x -> x.orderAt(1), x -> x.leader(40), x -> x.plan(5), x -> x.planAt(5, 4), x -> x.planAt(1, 0),
        x -> x.mean(65536, 20, 40), x -> x.mean(0, 1, 0), x -> x.late(4, 3), SnakeRow::kicks, SnakeRow::inTime, SnakeRow::bestBand,
        SnakeRow::out, SnakeRow::fits, x -> x.table(1, 4), x -> x.steps(2)};
    promise = 52;
    for (int i = 0; i < calls.length; i++) {
      SnakeRow x = busy();
      x.back(-1);
      due("trouble()", x.trouble(), 1);
      calls[i].of(x);
      due("trouble() behind call " + i, x.trouble(), 0);
      same("call " + i, x, busy());
    }
  }

  /** Each ACT can be undone, and all is as ahead of it, what could be undone then, too. */
  private static void actsUndone() {
    Call[] acts = {x -> x.dance(1), x -> x.dance(20), x -> bit(x.lead(0)), x -> bit(x.lead(3)), x -> bit(x.change(1, 2)),
        x -> bit(x.letGo(1)), x -> bit(x.letGo(2)), x -> bit(x.band(4, 0)), x -> bit(x.band(2, 2))};
    for (int i = 0; i < acts.length; i++) {
      promise = 45;
      SnakeRow x = busy();
      int ahead = x.size(13);
      if (acts[i].of(x) < 1) tell("act " + i + " is refused");
      due("trouble() behind act " + i, x.trouble(), 0);
      due("ACTS behind act " + i, x.size(13), ahead + 1);
      x.seed(31);
      due("undo() of act " + i, bit(x.undo()), 1);
      due("trouble() behind undo()", x.trouble(), 0);
      same("act " + i + ", undone,", x, busy());
      // a mark made ahead of it brings all back, but nothing can be undone then
      promise = 47;
      x = fresh();
      x.mark();
      acts[i].of(x);
      x.seed(32);
      due("back(0)", bit(x.back(0)), 1);
      due("trouble() behind back(0)", x.trouble(), 0);
      SnakeRow twin = fresh();
      twin.mark();
      same("act " + i + ", gone back,", x, twin);
    }
    // a JOLT of a RING leaves nothing behind for what is undone
    for (int k = 1; k <= 4; k++) {
      promise = 24;
      SnakeRow x = ring();
      x.jolt(k, 1);
      x.undo();
      due("ring(40) behind a JOLT of a RING, undone", x.ring(40), 2);
      SnakeRow twin = ring();
      twin.undo();
      same("a JOLT of a RING", x, twin);
    }
    promise = 44;
    SnakeRow x = busy();
    due("seed(98)", bit(x.seed(98)), 1);
    due("ACTS", x.size(13), busy().size(13));
    x.seed(99);
    same("SEED, set and set again,", x, busy());
  }

  /** A HALL that is read takes the place of all that came to pass in the one before. */
  private static void readAnew() {
    promise = 3;
    SnakeRow x = lessBusy();
    Texts.put(x, RICH);
    due("hall", x.hall(RICH.length()), 4);
    due("trouble()", x.trouble(), 0);
    same("a HALL, read again,", x, fresh());
    x = lessBusy();
    Texts.put(x, BARE);
    due("hall", x.hall(BARE.length()), 1);
    same("another HALL", x, bare());
    x = ring();
    Texts.put(x, RICH + "  what is behind the first bytes is no more there");
    due("hall", x.hall(RICH.length()), 4);
    same("another HALL, with more on the tape,", x, fresh());
    // nothing of the HALL before is left: SIDES told, who sits, steps, frames, dancers
    String full = ROOM + "steps 1,1,1,1,1,1,1,1;leads told east" + Texts.times(11, ",east") + ";table a at 0,0 sits 9 heavy legs 9 grip 9 eager 9;"
        + "table b at 1,0 sits 8 heavy legs 8 grip 8 eager 8;table c at 2,0 sits 7 heavy legs 7 grip 7 eager 7;"
        + "table d at 3,0 sits 6 heavy legs 6 grip 6 eager 6;" + Texts.times(4, "dancer heavy legs 1 grip 1;") + "band 1,1 sound 9;home 1,1;snake 3,3 east"
        + Texts.times(8, ";frame 1 1 at 1,1");
    String little = RICH.replace("leads ahead", "leads told south,west");
    String bareTold = BARE.replace("leads ahead", "leads told south" + Texts.times(11, ",north"));
    for (String then : new String[] {RICH, BARE, RING, little, bareTold}) {
      x = read(full);
      Texts.put(x, then);
      if (x.hall(then.length()) < 0) tell("a sound text is refused behind another: " + then);
      same("a HALL behind a full one", x, read(then));
      // a full one that fails at its end leaves nothing either
      x = new SnakeRow();
      Texts.put(x, full + ";");
      due("hall", x.hall(full.length() + 1), -1);
      Texts.put(x, then);
      if (x.hall(then.length()) < 0) tell("a sound text is refused behind a faulty one: " + then);
      same("a HALL behind a faulty one", x, read(then));
      x = read(then);
      Texts.put(x, full);
      if (x.hall(full.length()) < 0) tell("a sound text is refused behind another: " + full);
      same("a full HALL", x, read(full));
    }
  }
}
