import java.util.ArrayDeque;
import java.util.ArrayList;
import java.util.Arrays;
import java.util.HashMap;
import java.util.List;
import java.util.Map;
import java.util.NoSuchElementException;

/**
 * A second telling of the document, made for plainness and not for thrift, asked the same as SnakeRow in many made-up
 * halls. The numbers come from a fixed row, so that every run asks the same.
 */
public final class SnakeRowModel {
  private static final int ROUNDS = 1100;
  private static final int CALLS = 170;
  // what an object answers to later calls is free
  private static final int MOST_CALLS = 512;
  private static int wrong = 0;
  // calls of the object that is asked now
  private static int asked = 0;
  private static long lot = 20261119L;

  public static void main(String[] args) {
    int good = 0;
    for (int round = 0; round < ROUNDS && wrong < 20; round++) {
      good += playRound(round) ? 1 : 0;
    }
    if (good < ROUNDS / 2) {
      wrong++;
      System.out.println("model: too few halls were sound: " + good + " of " + ROUNDS);
    }
    System.out.println(wrong == 0 ? "the model agrees" : wrong + " answers unlike the model's");
    if (wrong != 0) System.exit(1);
  }

  static int draw(int below) {
    lot = lot * 6364136223846793005L + 1442695040888963407L;
    return (int) ((lot >>> 33) % below);
  }

  static boolean oneIn(int n) { return draw(n) == 0; }

  static <T> T any(List<T> of) { return of.get(draw(of.size())); }

  // ---- one object asked many things

  private static boolean playRound(int round) {
    SnakeRow x = new SnakeRow();
    Model m = new Model();
    asked = 0;
    List<String> log = new ArrayList<>();
    if (oneIn(10)) for (int i = 0; i < 12; i++) ask(x, m, log, round);
    boolean good = false;
    int halls = oneIn(4) ? 6 : 2;
    for (int h = 0; h < halls && asked < MOST_CALLS - 60; h++) {
      String text = oneIn(4) ? Maker.spoil(Maker.text()) : Maker.text();
      if (text.length() > 880) text = text.substring(0, 880);
      log.add("text: " + text);
      int n = pour(x, m, text, log, round);
      if (n < 0) continue;
      int before = m.many();
      good |= check(log, round, "hall(" + n + ")", x.hall(n), m.hall(n)) && m.text != null;
      check(log, round, "trouble()", x.trouble(), m.trouble);
      check(log, round, "fault()", x.fault(), m.fault);
      check(log, round, "where()", x.where(), m.where());
      if (before < 0 && m.text == null) continue;
      boolean far = oneIn(14);
      for (int i = 0; i < 9 && far && asked < MOST_CALLS; i++) check(log, round, "dance(20)", x.dance(20), m.dance(20));
      for (int i = 0; i < CALLS / halls && wrong < 20 && asked < MOST_CALLS - 3; i++) ask(x, m, log, round);
      if (oneIn(3)) walkState(x, m, log, round);
    }
    return good;
  }

  private static int pour(SnakeRow x, Model m, String text, List<String> log, int round) {
    for (int i = 0; i < text.length(); i += 20) {
      int[] five = new int[5];
      for (int k = 0; k < 20; k++) {
        int c = i + k < text.length() ? text.charAt(i + k) : ' ';
        five[k / 4] = (five[k / 4] << 8) | c;
      }
      check(log, round, "feed", x.feed(five[0], five[1], five[2], five[3], five[4]),
          m.feed(five[0], five[1], five[2], five[3], five[4]));
    }
    return text.length() > m.tape.size() ? -1 : text.length();
  }

  private static void walkState(SnakeRow x, Model m, List<String> log, int round) {
    for (int i = 0; i < m.many() + 1; i++) {
      for (int w = -1; w < 8 && asked < MOST_CALLS; w++) check(log, round, "dancer(" + i + "," + w + ")", x.dancer(i, w), m.dancer(i, w));
    }
    for (int i = -1; i <= m.now.way.size() && asked < MOST_CALLS; i++) check(log, round, "way(" + i + ")", x.way(i), m.way(i));
    for (int i = -1; i < 18 && asked < MOST_CALLS; i++) check(log, round, "size(" + i + ")", x.size(i), m.size(i));
  }

  private static boolean check(List<String> log, int round, String call, long got, long want) {
    asked++;
    log.add(call + " = " + want);
    if (got == want) return true;
    wrong++;
    System.out.println("round " + round + ": " + call + " answered " + got + ", the model " + want);
    for (String line : log.subList(Math.max(0, log.size() - 12), log.size())) System.out.println("    " + line);
    for (String line : log) if (line.startsWith("text")) System.out.println("    " + line);
    return false;
  }

  private static final List<Integer> WILD = List.of(Integer.MAX_VALUE, Integer.MIN_VALUE, 1 << 30, -2, 255, 65536);

  private static int small() { return oneIn(8) ? any(WILD) : draw(20) - 3; }

  private static int time() { return oneIn(40) ? any(WILD) : oneIn(12) ? any(List.of(-1, 41, 40, 99)) : draw(25); }

  private static int along(int most) { return oneIn(25) ? any(WILD) : draw(most) - 1; }

  private static void ask(SnakeRow x, Model m, List<String> log, int round) {
    int what = draw(64);
    int i = oneIn(3) ? small() : draw(6);
    int j = oneIn(3) ? small() : draw(6);
    int t = time();
    int cx = along(10), cy = along(8);
    switch (what) {
      case 0: check(log, round, "many()", x.many(), m.many()); break;
      case 1: check(log, round, "cell(" + cx + "," + cy + ")", x.cell(cx, cy), m.cell(cx, cy)); break;
      case 2: check(log, round, "dancer(" + i + "," + j + ")", x.dancer(i, j), m.dancer(i, j)); break;
      case 3: check(log, round, "stands(" + cx + "," + cy + ")", x.stands(cx, cy), m.stands(cx, cy)); break;
      case 4: check(log, round, "way(" + i + ")", x.way(i), m.way(i)); break;
      case 5: check(log, round, "length()", x.length(), m.length()); break;
      case 6: check(log, round, "corners()", x.corners(), m.corners()); break;
      case 7: check(log, round, "sits(" + i + ")", x.sits(i), m.sits(i)); break;
      case 8: check(log, round, "over()", x.over(), m.over()); break;
      case 9: check(log, round, "manyIn(" + t + ")", x.manyIn(t), m.manyIn(t)); break;
      case 10: case 11: check(log, round, "at(" + i + "," + t + ")", x.at(i, t), m.at(i, t)); break;
      case 12: check(log, round, "ran(" + i + "," + t + ")", x.ran(i, t), m.ran(i, t)); break;
      case 13: check(log, round, "runner(" + t + ")", x.runner(t), m.runner(t)); break;
      case 14: check(log, round, "widest(" + t + ")", x.widest(t), m.widest(t)); break;
      case 15: check(log, round, "torn(" + t + ")", x.torn(t), m.torn(t)); break;
      case 16: check(log, round, "tornBy(" + t + ")", x.tornBy(t), m.tornBy(t)); break;
      case 17: check(log, round, "joined(" + t + ")", x.joined(t), m.joined(t)); break;
      case 18: check(log, round, "ring(" + t + ")", x.ring(t), m.ring(t)); break;
      case 19: case 20: case 60: {
        int k = oneIn(9) ? any(WILD) : draw(6), who = draw(Math.max(1, m.many()) + 1);
        check(log, round, "jolt(" + k + "," + who + ")", x.jolt(k, who), m.jolt(k, who));
        check(log, round, "grows(" + k + "," + who + ")", x.grows(k, who), m.grows(k, who));
        break;
      }
      case 21: check(log, round, "holds()", x.holds(), m.holds()); break;
      case 22: if (oneIn(12)) check(log, round, "order()", x.order(), m.order()); break;
      case 23: if (oneIn(12)) check(log, round, "orderAt(" + i + ")", x.orderAt(i), m.orderAt(i)); break;
      case 24: check(log, round, "leader(" + t + ")", x.leader(t), m.leader(t)); break;
      case 25: if (oneIn(3)) { int d = along(8); check(log, round, "plan(" + d + ")", x.plan(d), m.plan(d)); } break;
      case 26: if (oneIn(3)) { int d = along(8); check(log, round, "planAt(" + d + "," + i + ")", x.planAt(d, i), m.planAt(d, i)); } break;
      case 27: {
        int seed = oneIn(4) ? any(List.of(-1, 65537, 65536, 65530, Integer.MAX_VALUE)) : draw(65537);
        int n = oneIn(5) ? any(List.of(0, 21, 20)) : 1 + draw(5);
        check(log, round, "mean(" + seed + "," + n + "," + t + ")", x.mean(seed, n, t), m.mean(seed, n, t));
        break;
      }
      case 28: check(log, round, "late(" + cx + "," + cy + ")", x.late(cx, cy), m.late(cx, cy)); break;
      case 29: check(log, round, "kicks()", x.kicks(), m.kicks()); break;
      case 30: check(log, round, "inTime()", x.inTime(), m.inTime()); break;
      case 31: check(log, round, "bestBand()", x.bestBand(), m.bestBand()); break;
      case 32: check(log, round, "out()", x.out(), m.out()); break;
      case 33: check(log, round, "fits()", x.fits(), m.fits()); break;
      case 34: case 35: case 36: case 37: {
        int n = oneIn(6) ? any(List.of(0, 21, 20, -3, Integer.MAX_VALUE, Integer.MIN_VALUE)) : 1 + draw(5);
        check(log, round, "dance(" + n + ")", x.dance(n), m.dance(n));
        break;
      }
      case 38: case 39: { int g = along(8); check(log, round, "lead(" + g + ")", x.lead(g) ? 1 : 0, m.lead(g) ? 1 : 0); break; }
      case 40: case 41: check(log, round, "change(" + i + "," + j + ")", x.change(i, j) ? 1 : 0, m.change(i, j) ? 1 : 0); break;
      case 42: if (oneIn(3)) check(log, round, "letGo(" + i + ")", x.letGo(i) ? 1 : 0, m.letGo(i) ? 1 : 0); break;
      case 43: check(log, round, "band(" + cx + "," + cy + ")", x.band(cx, cy) ? 1 : 0, m.band(cx, cy) ? 1 : 0); break;
      case 44: { int v = oneIn(5) ? any(List.of(-1, 65537, 65536)) : draw(65537); check(log, round, "seed(" + v + ")", x.seed(v) ? 1 : 0, m.seed(v) ? 1 : 0); break; }
      case 45: case 46: case 47: check(log, round, "undo()", x.undo() ? 1 : 0, m.undo() ? 1 : 0); break;
      case 48: check(log, round, "mark()", x.mark(), m.mark()); break;
      case 49: { int k = along(5); check(log, round, "back(" + k + ")", x.back(k) ? 1 : 0, m.back(k) ? 1 : 0); break; }
      case 50: check(log, round, "table(" + i + "," + j + ")", x.table(i, j), m.table(i, j)); break;
      case 51: check(log, round, "steps(" + i + ")", x.steps(i), m.steps(i)); break;
      case 52: case 53: check(log, round, "led(" + i + ")", ledOf(x, i), m.led(i)); break;
      case 54: case 55: { int s = along(18); check(log, round, "size(" + s + ")", x.size(s), m.size(s)); break; }
      case 56: { int n = any(List.of(-1, 9999, 901, Integer.MIN_VALUE, Integer.MAX_VALUE)); check(log, round, "hall(" + n + ")", x.hall(n), m.hall(n)); break; }
      case 57: check(log, round, "feed", x.feed(what, i, j, t, round), m.feed(what, i, j, t, round)); break;
      case 58: check(log, round, "where()", x.where(), m.where()); break;
      case 59: check(log, round, "fault()", x.fault(), m.fault); break;
      default: check(log, round, "trouble()", x.trouble(), m.trouble);
    }
    check(log, round, "trouble() then", x.trouble(), m.trouble);
  }

  private static long ledOf(SnakeRow x, int i) {
    try {
      return x.led(i);
    } catch (NoSuchElementException none) {
      return -99;
    }
  }

  // ---- texts

  private static final class Maker {
    static final List<String> KINDS = List.of("plain", "aunt", "child", "heavy");
    static final List<String> SIDES = List.of("north", "east", "south", "west");

    static String text() {
      int wide = 3 + draw(6), high = 2 + draw(5);
      boolean calm = oneIn(3);
      List<String> lines = new ArrayList<>();
      lines.add("hall wide " + wide + " high " + high + " law " + (oneIn(2) ? "round" : "through") + " joins "
          + (oneIn(2) ? "end" : "behind"));
      int dancers = 1 + draw(8);
      List<String> rows = new ArrayList<>();
      for (int y = 0; y < high; y++) {
        StringBuilder row = new StringBuilder();
        for (int x = 0; x < wide; x++) row.append(oneIn(9) ? 'w' : oneIn(8) ? 's' : 'f');
        rows.add("row " + row);
      }
      lines.addAll(rows);
      int[] taken = new int[48];
      int tables = draw(5);
      String names = "abcdefgh";
      for (int t = 0; t < tables; t++) {
        int cx = draw(wide), cy = draw(high);
        if (taken[cy * 8 + cx]++ > 0 || rows.get(cy).charAt(4 + cx) == 'w') continue;
        lines.add("table " + names.charAt(t) + " at " + cx + "," + cy + " sits " + (1 + draw(9)) + " " + any(KINDS)
            + " legs " + (1 + draw(9)) + " grip " + draw(10) + " eager " + (oneIn(3) ? 100 : draw(101)));
      }
      int weak = 1 + draw(9);
      for (int i = 0; i < dancers; i++) {
        lines.add("dancer " + any(KINDS) + " legs " + (1 + draw(weak)) + " grip " + draw(calm ? 10 : 4));
      }
      snake(lines, rows, taken, wide, high, dancers);
      List<String> more = new ArrayList<>();
      if (!oneIn(3)) more.add("band " + draw(wide) + "," + draw(high) + " sound " + (1 + draw(oneIn(2) ? 3 : 9)));
      if (!oneIn(3)) more.add("home " + draw(wide) + "," + draw(high));
      StringBuilder steps = new StringBuilder("steps " + draw(4));
      for (int i = draw(8); i > 0; i--) steps.append(", ").append(draw(4));
      more.add(steps.toString());
      more.add("leads " + leader());
      for (String line : more) lines.add(1 + draw(lines.size()), line);
      for (int i = draw(4); i > 0; i--) {
        String frame = "frame " + draw(oneIn(3) ? 41 : 6) + " " + draw(oneIn(2) ? 1 : dancers) + " at " + draw(wide) + ", " + draw(high);
        lines.add(oneIn(6) ? 1 + draw(lines.size()) : lines.size(), frame);
      }
      return String.join(oneIn(2) ? ";" : " ; ", lines);
    }

    private static String leader() {
      int which = draw(6);
      if (which < 5) return List.of("ahead", "right", "left", "lot", "home").get(which);
      StringBuilder told = new StringBuilder("told " + any(SIDES));
      for (int i = draw(12); i > 0; i--) told.append(",").append(any(SIDES));
      return told.toString();
    }

    /** A snake that has room, if there is one among some tried. */
    private static void snake(List<String> lines, List<String> rows, int[] taken, int wide, int high, int dancers) {
      int[] dx = {0, 1, 0, -1}, dy = {-1, 0, 1, 0};
      int want = dancers;
      for (int tries = 0; tries < 400; tries++) {
        if (tries % 60 == 59 && want > 1) {
          want--;
          for (int i = lines.size() - 1; i >= 0; i--) {
            if (lines.get(i).startsWith("dancer")) { lines.remove(i); break; }
          }
        }
        int side = draw(4), cx = draw(wide), cy = draw(high);
        boolean fits = true;
        for (int i = 0; i < want && fits; i++) {
          int px = cx - dx[side] * i, py = cy - dy[side] * i;
          fits = px >= 0 && px < wide && py >= 0 && py < high && taken[py * 8 + px] == 0 && rows.get(py).charAt(4 + px) != 'w';
        }
        if (fits || tries == 399) {
          lines.add("snake " + cx + "," + cy + " " + SIDES.get(side));
          return;
        }
      }
    }

    static final String WORDS = "hall wide high law through round joins end behind row band sound home steps leads ahead "
        + "right left lot told north east south west table at sits plain aunt child heavy legs grip eager dancer snake "
        + "frame ; , 0 1 2 3 4 5 9 10 40 41 100 101 999 1000 fff ffff abcdefghi abcdefgh a b A ~ x3 3x ;; ,,";

    static String spoil(String text) {
      String[] words = WORDS.split(" ");
      int at = draw(text.length());
      switch (draw(8)) {
        case 0: return text.substring(0, at);
        case 1: return text.substring(0, at) + text.substring(at + 1);
        case 2: return text.substring(0, at) + (char) draw(256) + text.substring(at + 1);
        case 3: return text.substring(0, at) + " " + words[draw(words.length)] + " " + text.substring(at);
        case 4: {
          // a TOKEN made another
          int from = text.lastIndexOf(' ', at) + 1;
          int to = text.indexOf(' ', from);
          return text.substring(0, from) + words[draw(words.length)] + (to < 0 ? "" : text.substring(to));
        }
        case 5: {
          List<String> lines = new ArrayList<>(Arrays.asList(text.split(";")));
          lines.remove(draw(lines.size()));
          return String.join(";", lines);
        }
        case 6: {
          List<String> lines = new ArrayList<>(Arrays.asList(text.split(";")));
          lines.add(draw(lines.size() + 1), any(lines));
          return String.join(";", lines);
        }
        default: {
          List<String> lines = new ArrayList<>(Arrays.asList(text.split(";")));
          String line = lines.remove(draw(lines.size()));
          lines.add(draw(lines.size() + 1), line);
          return String.join(";", lines);
        }
      }
    }
  }

  // ---- the model: the text

  private static final class Fault extends RuntimeException {
    private static final long serialVersionUID = 1L;
    final int number, place;
    Fault(int number, int place) { this.number = number; this.place = place; }
  }

  private static final class Token {
    final char sort; // a word, 0 whole, ; , ? none, . the end
    final String text;
    final int place;
    Token(char sort, String text, int place) { this.sort = sort; this.text = text; this.place = place; }
  }

  private static final class Table {
    int cell, kind, legs, grip, eager, sits;
    String name;
  }

  private static final class Person implements Cloneable {
    int number, place, kind, legs, grip;
    Person twin() {
      Person p = new Person();
      p.number = number; p.place = place; p.kind = kind; p.legs = legs; p.grip = grip;
      return p;
    }
  }

  private static final class Text {
    int wide, high, home = -2, band = -2, sound, leader = -1, front = -1, look;
    boolean round, behind;
    final List<String> rows = new ArrayList<>();
    final List<Integer> steps = new ArrayList<>(), sides = new ArrayList<>();
    final List<Table> tables = new ArrayList<>();
    final List<Person> dancers = new ArrayList<>();
    final List<int[]> frames = new ArrayList<>();
    private final List<Token> tokens = new ArrayList<>();
    private int spot = 0;

    static final List<String> KEYS = List.of("hall", "row", "band", "home", "steps", "leads", "table", "dancer", "snake", "frame");

    Text(String text) {
      cutUp(text);
      do readLine(); while (mark(';', true));
      if (peek().sort != '.') throw new Fault(1, peek().place);
      if (steps.isEmpty() || leader < 0 || front < 0) throw new Fault(6, peek().place);
    }

    private void cutUp(String text) {
      java.util.regex.Matcher m = java.util.regex.Pattern.compile("[a-z]+|[0-9]+|[;,]|[^ ]", java.util.regex.Pattern.DOTALL).matcher(text);
      while (m.find()) {
        String s = m.group();
        char c = s.charAt(0);
        char sort = '?';
        if (s.matches("[a-z]{1,8}")) sort = 'a';
        else if (s.matches("[0-9]{1,3}")) sort = '0';
        else if (s.equals(";") || s.equals(",")) sort = c;
        tokens.add(new Token(sort, s, m.start()));
      }
      tokens.add(new Token('.', "", text.length()));
    }

    private Token peek() { return tokens.get(spot); }

    private Token take(char sort) {
      Token t = peek();
      if (t.sort != sort) throw new Fault(1, t.place);
      spot++;
      return t;
    }

    private boolean mark(char sort, boolean maybe) {
      if (maybe && peek().sort != sort) return false;
      take(sort);
      return true;
    }

    private int word(List<String> of) {
      Token t = peek();
      if (t.sort != 'a' || !of.contains(t.text)) throw new Fault(1, t.place);
      spot++;
      return of.indexOf(t.text);
    }

    private void word(String w) { word(List.of(w)); }

    private int whole(int least, int most) {
      Token t = take('0');
      int v = Integer.parseInt(t.text);
      if (v < least || v > most) throw new Fault(4, t.place);
      return v;
    }

    private int lastPlace() { return tokens.get(spot - 1).place; }

    private int readCell() {
      int x = whole(0, wide - 1);
      take(',');
      return whole(0, high - 1) * wide + x;
    }

    int sort(int cell) {
      for (Table t : tables) if (t.cell == cell) return 3;
      return "fsw".indexOf(rows.get(cell / wide).charAt(cell % wide));
    }

    boolean open(int cell) { return cell >= 0 && sort(cell) < 2; }

    int next(int cell, int side) {
      int x = cell % wide + (side == 1 ? 1 : side == 3 ? -1 : 0);
      int y = cell / wide + (side == 2 ? 1 : side == 0 ? -1 : 0);
      return x < 0 || y < 0 || x >= wide || y >= high ? -1 : y * wide + x;
    }

    private void readLine() {
      Token first = peek();
      int key = word(KEYS);
      boolean rowsDone = wide > 0 && rows.size() == high;
      boolean again = (key == 0 && wide > 0) || (key == 2 && band >= 0) || (key == 3 && home >= 0)
          || (key == 4 && !steps.isEmpty()) || (key == 5 && leader >= 0) || (key == 8 && front >= 0);
      boolean many = (key == 1 && rowsDone) || (key == 6 && tables.size() == 4) || (key == 7 && dancers.size() == 8)
          || (key == 9 && frames.size() == 8);
      boolean lacks = (key != 0 && wide == 0) || (key == 6 && (!rowsDone || front >= 0)) || (key == 7 && front >= 0)
          || (key == 8 && (!rowsDone || dancers.isEmpty()));
      if (again) throw new Fault(3, first.place);
      if (many) throw new Fault(5, first.place);
      if (lacks) throw new Fault(6, first.place);
      switch (KEYS.get(key)) {
        case "hall": readHall(); break;
        case "row": readRow(); break;
        case "band": { int c = readCell(); word("sound"); sound = whole(1, 9); band = c; break; }
        case "home": home = readCell(); break;
        case "steps":
          do {
            int v = whole(0, 3);
            if (steps.size() == 8) throw new Fault(5, lastPlace());
            steps.add(v);
          } while (mark(',', true));
          break;
        case "leads": readLeads(); break;
        case "table": readTable(); break;
        case "dancer": dancers.add(readPerson(dancers.size())); break;
        case "snake": readSnake(); break;
        default: {
          int beat = whole(0, 40);
          int who = whole(0, dancers.size() - 1);
          word("at");
          frames.add(new int[] {beat, who, readCell()});
        }
      }
    }

    private void readHall() {
      word("wide");
      int w = whole(3, 8);
      word("high");
      high = whole(2, 6);
      word("law");
      round = word(List.of("through", "round")) == 1;
      word("joins");
      behind = word(List.of("end", "behind")) == 1;
      wide = w;
    }

    private void readRow() {
      Token t = take('a');
      if (!t.text.matches("[fsw]{" + wide + "}")) throw new Fault(7, t.place);
      rows.add(t.text);
    }

    private void readLeads() {
      leader = word(List.of("ahead", "right", "left", "lot", "home", "told"));
      if (leader < 5) return;
      do {
        int s = word(Maker.SIDES);
        if (sides.size() == 12) throw new Fault(5, lastPlace());
        sides.add(s);
      } while (mark(',', true));
    }

    private void readTable() {
      Table t = new Table();
      Token name = take('a');
      if (KEYS.contains(name.text)) throw new Fault(1, name.place);
      for (Table other : tables) if (other.name.equals(name.text)) throw new Fault(3, name.place);
      t.name = name.text;
      word("at");
      t.cell = readCell();
      if (sort(t.cell) == 3) throw new Fault(3, lastPlace());
      if (sort(t.cell) == 2) throw new Fault(7, lastPlace());
      word("sits");
      t.sits = whole(1, 9);
      Person p = readPerson(0);
      t.kind = p.kind; t.legs = p.legs; t.grip = p.grip;
      word("eager");
      t.eager = whole(0, 100);
      tables.add(t);
    }

    private Person readPerson(int number) {
      Person p = new Person();
      p.number = number;
      p.kind = word(Maker.KINDS);
      word("legs");
      p.legs = whole(1, 9);
      word("grip");
      p.grip = whole(0, 9);
      return p;
    }

    private void readSnake() {
      int cell = readCell();
      if (!open(cell)) throw new Fault(7, lastPlace());
      int side = word(Maker.SIDES);
      int back = cell;
      for (int i = 1; i < dancers.size(); i++) {
        back = next(back, (side + 2) & 3);
        if (back < 0 || !open(back)) throw new Fault(7, lastPlace());
      }
      front = cell;
      look = side;
    }

    /** How far each CELL is from one, over OPEN ones but those shut. */
    Map<Integer, Integer> far(int from, List<Integer> shut) {
      Map<Integer, Integer> far = new HashMap<>();
      if (from < 0 || !open(from)) return far;
      ArrayDeque<Integer> queue = new ArrayDeque<>(List.of(from));
      far.put(from, 0);
      while (!queue.isEmpty()) {
        int c = queue.poll();
        for (int s = 0; s < 4; s++) {
          int n = next(c, s);
          if (n >= 0 && open(n) && !shut.contains(n) && !far.containsKey(n)) {
            far.put(n, far.get(c) + 1);
            queue.add(n);
          }
        }
      }
      return far;
    }
  }

  // ---- the model: the row

  private static final class State {
    final Text text;
    List<Integer> way = new ArrayList<>();
    List<Person> row = new ArrayList<>();
    List<Integer> seats = new ArrayList<>();
    List<Integer> sides;
    int beat, seed, leader, look, told, nextNumber, over, band;
    // of a film of what will be
    Map<Integer, Integer> ran = new HashMap<>();
    int beats, tornAt = -2, tornWho, tornOut, joined, ringAt = -2, pace = -1;

    State(Text text) {
      this.text = text;
      int cell = text.front;
      for (Person p : text.dancers) {
        Person q = p.twin();
        q.place = text.dancers.size() - 1 - p.number;
        row.add(q);
        way.add(0, cell);
        cell = text.next(cell, (text.look + 2) & 3);
      }
      for (Table t : text.tables) seats.add(t.sits);
      sides = text.sides;
      leader = text.leader;
      look = text.look;
      nextNumber = row.size();
      band = text.band;
    }

    /** The same, with nothing counted yet. */
    State twin() {
      State s = new State(text);
      s.way = new ArrayList<>(way);
      s.row = new ArrayList<>();
      for (Person p : row) s.row.add(p.twin());
      s.seats = new ArrayList<>(seats);
      s.beat = beat; s.seed = seed; s.leader = leader; s.look = look; s.told = told; s.nextNumber = nextNumber;
      s.over = over; s.band = band;
      return s;
    }

    int cell(Person p) { return way.get(p.place); }

    int gap(int i) { return row.get(i - 1).place - row.get(i).place - 1; }

    int draw() { return seed = (int) ((75L * seed + 74) % 65537); }

    Person find(int number) {
      for (Person p : row) if (p.number == number) return p;
      return null;
    }

    boolean turns(int place) {
      if (place == 0 || place == way.size() - 1) return false;
      return side(way.get(place - 1), way.get(place)) != side(way.get(place), way.get(place + 1));
    }

    private int side(int a, int b) {
      for (int s = 0; s < 4; s++) if (text.next(a, s) == b) return s;
      throw new IllegalStateException("the way has a hole");
    }

    State run(int n) {
      for (int i = 0; i < n; i++) beat(false);
      return this;
    }

    private boolean can(int side) {
      int to = text.next(way.get(way.size() - 1), side);
      if (to < 0 || !text.open(to)) return false;
      if (!text.round) return true;
      boolean taken = false;
      for (int i = 1; i < row.size(); i++) taken |= cell(row.get(i)) == to;
      return !taken || (row.size() >= 3 && cell(row.get(row.size() - 1)) == to);
    }

    private int choose() {
      int[][] order = {{0, 1, 3, 2}, {1, 0, 3, 2}, {3, 0, 1, 2}};
      if (leader < 3) {
        for (int turn : order[leader]) if (can((look + turn) & 3)) return (look + turn) & 3;
        return -1;
      }
      if (leader == 5) {
        if (told >= sides.size()) return -1;
        int s = sides.get(told++);
        return can(s) ? s : -1;
      }
      List<Integer> able = new ArrayList<>();
      for (int s = 0; s < 4; s++) if (can(s)) able.add(s);
      int here = way.get(way.size() - 1);
      if (leader == 3) return able.isEmpty() ? -1 : able.get(draw() % able.size());
      if (here == text.home) return -1;
      Map<Integer, Integer> far = text.far(text.home, List.of());
      int best = -1;
      for (int s : able) {
        Integer d = far.get(text.next(here, s));
        if (d != null && (best < 0 || d < far.get(text.next(here, best)))) best = s;
      }
      return best;
    }

    void beat(boolean standing) {
      beats++;
      if (over != 0) return;
      int go = standing ? 0 : pace > 0 ? pace : text.steps.get(beat % text.steps.size());
      beat++;
      for (int k = 0; k < go; k++) {
        int s = choose();
        if (s < 0) continue;
        int to = text.next(way.get(way.size() - 1), s);
        boolean ring = text.round && row.size() >= 3 && cell(row.get(row.size() - 1)) == to;
        way.add(to);
        row.get(0).place = way.size() - 1;
        ran.merge(row.get(0).number, 1, Integer::sum);
        look = s;
        if (ring) {
          over = 1;
          ringAt = beats;
          return;
        }
      }
      follow();
      tear();
      row.removeIf(p -> p != row.get(0) && p.kind == 1 && text.sort(cell(p)) == 1);
      for (int t = 0; t < text.tables.size(); t++) invite(t);
      if (way.size() > 200) over = 2;
    }

    private void follow() {
      for (int i = 1; i < row.size(); i++) {
        Person p = row.get(i);
        int legs = p.legs;
        while (p.place < row.get(i - 1).place - 1) {
          int cost = !turns(p.place) ? 1 : p.kind == 2 ? 1 : p.kind == 3 ? 3 : 2;
          if (legs < cost) break;
          legs -= cost;
          p.place++;
          ran.merge(p.number, 1, Integer::sum);
        }
      }
    }

    private void tear() {
      for (int i = 1; i < row.size(); i++) {
        if (gap(i) <= row.get(i).grip) continue;
        if (tornAt < 0) {
          tornAt = beats - 1;
          tornWho = row.get(i).number;
        }
        tornOut += row.size() - i;
        row = new ArrayList<>(row.subList(0, i));
        return;
      }
    }

    private void invite(int t) {
      Table table = text.tables.get(t);
      if (seats.get(t) == 0 || row.size() >= 16) return;
      for (int i = 0; i < row.size(); i++) {
        boolean beside = false;
        for (int s = 0; s < 4; s++) beside |= text.next(cell(row.get(i)), s) == table.cell;
        if (!beside) continue;
        if (draw() % 100 >= table.eager) return;
        seats.set(t, seats.get(t) - 1);
        Person p = new Person();
        p.number = nextNumber++;
        p.kind = table.kind; p.legs = table.legs; p.grip = table.grip;
        joined++;
        if (text.behind && i + 1 < row.size()) {
          p.place = row.get(i + 1).place;
          row.add(i + 1, p);
        } else {
          p.place = Math.max(0, row.get(row.size() - 1).place - 1);
          row.add(p);
        }
        return;
      }
    }
  }

  // ---- the model: the calls

  private static final class Model {
    final List<Integer> tape = new ArrayList<>();
    Text text;
    State now;
    List<State> undo = new ArrayList<>(), marks = new ArrayList<>();
    int trouble, fault, place;

    int no(int why) { trouble = why; return -1; }
    boolean nope(int why) { trouble = why; return false; }
    int yes(int v) { trouble = 0; return v; }
    boolean yes() { trouble = 0; return true; }

    int feed(int... five) {
      if (tape.size() > 880) return -1;
      for (int v : five) for (int k = 3; k >= 0; k--) tape.add((v >> (8 * k)) & 255);
      return tape.size();
    }

    int hall(int n) {
      if (n < 0 || n > tape.size()) return no(2);
      StringBuilder s = new StringBuilder();
      for (int b : tape.subList(0, n)) s.append((char) b);
      tape.clear();
      fault = 0;
      try {
        Text read = new Text(s.toString());
        text = read;
      } catch (Fault f) {
        fault = f.number;
        place = f.place;
        return no(4);
      }
      now = new State(text);
      undo.clear();
      marks.clear();
      return yes(now.row.size());
    }

    int where() { return trouble == 4 ? place : -1; }
    boolean none() { return text == null; }
    int cellAt(int x, int y) { return none() || x < 0 || y < 0 || x >= text.wide || y >= text.high ? -1 : y * text.wide + x; }
    boolean has(int i) { return !none() && i >= 0 && i < now.row.size(); }

    int cell(int x, int y) { int c = cellAt(x, y); return c < 0 ? no(1) : yes(text.sort(c)); }
    int many() { return none() ? no(1) : yes(now.row.size()); }

    int dancer(int i, int what) {
      if (!has(i) || what < 0 || what > 6) return no(1);
      Person p = now.row.get(i);
      return yes(new int[] {p.number, now.cell(p), i == 0 ? -2 : now.gap(i), p.place, p.kind, p.legs, p.grip}[what]);
    }

    int stands(int x, int y) {
      int c = cellAt(x, y);
      if (c < 0) return no(1);
      for (Person p : now.row) if (now.cell(p) == c) return yes(p.number);
      return yes(-2);
    }

    int way(int i) { return none() || i < 0 || i >= now.way.size() ? no(1) : yes(now.way.get(i)); }
    int length() { return none() ? no(1) : yes(now.way.size()); }

    int corners() {
      if (none()) return no(1);
      int n = 0;
      for (int i = now.row.get(now.row.size() - 1).place + 1; i < now.row.get(0).place; i++) if (now.turns(i)) n++;
      return yes(n);
    }

    int sits(int t) { return none() || t < 0 || t >= text.tables.size() ? no(1) : yes(now.seats.get(t)); }
    int over() { return none() ? no(1) : yes(now.over); }

    State in(int t) {
      if (none()) { no(1); return null; }
      if (t < 0 || t > 40) { no(2); return null; }
      trouble = 0;
      return now.twin().run(t);
    }

    int manyIn(int t) { State s = in(t); return s == null ? -1 : s.row.size(); }

    int at(int d, int t) {
      if (d < 0) return no(1);
      State s = in(t);
      return s == null ? -1 : s.find(d) == null ? -2 : s.cell(s.find(d));
    }

    int ran(int d, int t) {
      if (d < 0) return no(1);
      State s = in(t);
      return s == null ? -1 : s.find(d) == null ? 0 : s.ran.getOrDefault(d, 0);
    }

    int runner(int t) {
      State s = in(t);
      if (s == null) return -1;
      Person best = null;
      for (Person p : s.row) {
        if (best == null || s.ran.getOrDefault(p.number, 0) > s.ran.getOrDefault(best.number, 0)) best = p;
      }
      return best.number;
    }

    int widest(int t) {
      State s = in(t);
      if (s == null) return -1;
      int w = -2;
      for (int i = 1; i < s.row.size(); i++) w = Math.max(w, s.gap(i));
      return w;
    }

    int torn(int t) { State s = in(t); return s == null ? -1 : s.tornAt; }
    int tornBy(int t) { State s = in(t); return s == null ? -1 : s.tornAt < 0 ? no(6) : s.tornWho; }
    int joined(int t) { State s = in(t); return s == null ? -1 : s.joined; }
    int ring(int t) { State s = in(t); return s == null ? -1 : s.ringAt; }

    private Map<Integer, Integer> joltAll(int k) {
      State s = now.twin();
      Map<Integer, Integer> wide = new HashMap<>();
      for (int b = 0; b < k + 12; b++) {
        s.beat(b < k);
        for (int i = 1; i < s.row.size(); i++) wide.merge(s.row.get(i).number, s.gap(i), Math::max);
      }
      wide.keySet().removeIf(n -> s.find(n) == null);
      return wide;
    }

    int jolt(int k, int i) {
      if (i == 0 || !has(i)) return no(1);
      if (k < 1 || k > 4) return no(2);
      return yes(joltAll(k).getOrDefault(now.row.get(i).number, -2));
    }

    int grows(int k, int i) {
      if (i == 0 || !has(i) || !has(i + 1)) return no(1);
      if (k < 1 || k > 4) return no(2);
      Map<Integer, Integer> wide = joltAll(k);
      Integer a = wide.get(now.row.get(i).number), b = wide.get(now.row.get(i + 1).number);
      return yes(a == null || b == null ? -2 : Integer.signum(b - a));
    }

    int holds() {
      if (none()) return no(1);
      int best = -2;
      for (int pace = 1; pace <= 3; pace++) {
        State s = now.twin();
        s.pace = pace;
        if (s.run(12).tornAt == -2) best = pace;
      }
      return yes(best);
    }

    private int fewest;
    private List<Integer> bestOrder;

    private void tryOrders(List<Integer> head) {
      int n = now.row.size();
      if (head.size() < n - 1) {
        for (int i = 1; i < n; i++) {
          if (head.contains(i)) continue;
          List<Integer> longer = new ArrayList<>(head);
          longer.add(i);
          tryOrders(longer);
        }
        return;
      }
      State s = now.twin();
      for (int i = 1; i < n; i++) {
        Person p = now.row.get(head.get(i - 1)).twin();
        p.place = now.row.get(i).place;
        s.row.set(i, p);
      }
      s.run(12);
      if (bestOrder == null || s.tornOut < fewest) {
        fewest = s.tornOut;
        bestOrder = head;
      }
    }

    int order() {
      if (none()) return no(1);
      if (now.row.size() > 7) return no(3);
      bestOrder = null;
      tryOrders(List.of());
      return yes(fewest);
    }

    int orderAt(int i) {
      if (i == 0 || !has(i)) return no(1);
      if (order() < 0) return -1;
      return yes(bestOrder.get(i - 1));
    }

    int leader(int t) {
      if (in(t) == null) return -1;
      int best = -1, most = -1;
      for (int g : new int[] {0, 1, 2, 4}) {
        State s = now.twin();
        s.leader = g;
        s.run(t);
        if (s.row.size() > most) { most = s.row.size(); best = g; }
      }
      return yes(best);
    }

    private List<Integer> bestPlan;
    private int planMost;

    private void tryPlans(int d, List<Integer> head) {
      if (head.size() < d) {
        for (int s = 0; s < 4; s++) {
          List<Integer> longer = new ArrayList<>(head);
          longer.add(s);
          tryPlans(d, longer);
        }
        return;
      }
      State s = now.twin();
      s.leader = 5;
      s.told = 0;
      s.sides = head;
      s.run(d);
      if (s.row.size() > planMost) { planMost = s.row.size(); bestPlan = head; }
    }

    int plan(int d) {
      if (none()) return no(1);
      if (d < 1 || d > 5) return no(2);
      planMost = -1;
      tryPlans(d, List.of());
      return yes(planMost);
    }

    int planAt(int d, int i) {
      if (plan(d) < 0) return -1;
      return i < 0 || i >= d ? no(1) : yes(bestPlan.get(i));
    }

    int mean(int seed, int n, int t) {
      if (none()) return no(1);
      if (seed < 0 || seed > 65536 || n < 1 || n > 20 || t < 0 || t > 40) return no(2);
      int sum = 0;
      for (int k = 0; k < n; k++) {
        State s = now.twin();
        s.seed = (seed + k) % 65537;
        sum += s.run(t).row.size();
      }
      return yes(sum);
    }

    private int lateFrom(int band, int cell) {
      int w = text.wide;
      return (Math.abs(band % w - cell % w) + Math.abs(band / w - cell / w)) / text.sound;
    }

    int late(int x, int y) {
      int c = cellAt(x, y);
      return c < 0 || now.band < 0 ? no(1) : yes(lateFrom(now.band, c));
    }

    int kicks() { return none() ? no(1) : yes(text.steps.get(now.beat % text.steps.size()) == 0 ? 1 : 0); }

    private int timely(int band) {
      int n = 0;
      for (Person p : now.row) if (lateFrom(band, now.cell(p)) % text.steps.size() == 0) n++;
      return n;
    }

    int inTime() { return none() ? no(1) : now.band < 0 ? no(6) : yes(timely(now.band)); }

    int bestBand() {
      if (none()) return no(1);
      if (now.band < 0) return no(6);
      int best = -1;
      for (int c = 0; c < text.wide * text.high; c++) {
        if (text.sort(c) != 2 && (best < 0 || timely(c) > timely(best))) best = c;
      }
      return yes(best);
    }

    int out() {
      if (none()) return no(1);
      if (text.home < 0) return no(6);
      List<Integer> shut = new ArrayList<>();
      for (Person p : now.row) shut.add(now.cell(p));
      return yes(text.far(shut.get(0), shut).getOrDefault(text.home, -2));
    }

    int fits() {
      if (none()) return no(1);
      int bits = 0;
      for (int g = 0; g < 5; g++) {
        boolean all = true;
        for (int[] f : text.frames) {
          State s = new State(text);
          s.leader = g;
          s.run(f[0]);
          Person p = s.find(f[1]);
          all &= p != null && s.cell(p) == f[2];
        }
        if (all) bits += 1 << g;
      }
      return yes(bits);
    }

    private void keep() {
      undo.add(now.twin());
      if (undo.size() > 10) undo.remove(0);
    }

    int dance(int n) {
      if (none()) return no(1);
      if (n < 1 || n > 20) return no(2);
      if (now.over != 0) return no(5);
      keep();
      now.run(n);
      now = now.twin();
      return yes(now.row.size());
    }

    boolean lead(int g) {
      if (none() || g < 0 || g > 4) return nope(1);
      if (now.leader == g) return nope(5);
      keep();
      now.leader = g;
      return yes();
    }

    boolean change(int i, int j) {
      if (!has(i) || !has(j) || i == 0 || j == 0 || i == j) return nope(1);
      keep();
      Person a = now.row.get(i), b = now.row.get(j);
      int p = a.place;
      a.place = b.place;
      b.place = p;
      now.row.set(i, b);
      now.row.set(j, a);
      return yes();
    }

    boolean letGo(int i) {
      if (!has(i)) return nope(1);
      if (i == 0) return nope(5);
      keep();
      now.row.remove(i);
      return yes();
    }

    boolean band(int x, int y) {
      int c = cellAt(x, y);
      if (c < 0 || text.sort(c) == 2) return nope(1);
      if (text.band < 0) return nope(6);
      if (now.band == c) return nope(5);
      keep();
      now.band = c;
      return yes();
    }

    boolean seed(int v) {
      if (none()) return nope(1);
      if (v < 0 || v > 65536) return nope(2);
      now.seed = v;
      return yes();
    }

    boolean undo() {
      if (undo.isEmpty()) return nope(6);
      now = undo.remove(undo.size() - 1);
      return yes();
    }

    int mark() {
      if (none()) return no(1);
      if (marks.size() == 3) return no(3);
      marks.add(now.twin());
      return yes(marks.size() - 1);
    }

    boolean back(int k) {
      if (k < 0 || k >= marks.size()) return nope(1);
      now = marks.get(k).twin();
      undo.clear();
      return yes();
    }

    int table(int t, int what) {
      if (none() || t < 0 || t >= text.tables.size() || what < 0 || what > 4) return no(1);
      Table a = text.tables.get(t);
      return yes(new int[] {a.cell, a.kind, a.legs, a.grip, a.eager}[what]);
    }

    int steps(int i) { return none() || i < 0 || i >= text.steps.size() ? no(1) : yes(text.steps.get(i)); }

    int led(int i) {
      if (none()) return -99;
      List<Integer> up = new ArrayList<>();
      for (Person p : now.row) if (text.sort(now.cell(p)) == 1) up.add(p.number);
      return i < 0 || i >= up.size() ? -99 : up.get(i);
    }

    int size(int what) {
      if (what == 15) return tape.size();
      if (what < 0 || what > 15) return -1;
      if (none()) return 0;
      int[] all = {text.wide, text.high, text.round ? 1 : 0, text.behind ? 1 : 0, text.tables.size(), text.steps.size(),
        text.frames.size(), now.leader, now.look, now.beat, now.seed, now.band, text.home, undo.size(), marks.size()};
      return all[what];
    }
  }
}
