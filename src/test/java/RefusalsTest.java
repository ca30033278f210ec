import java.util.ArrayList;
import java.util.List;
import java.util.Set;
import java.util.TreeSet;

/**
 * Promises 2 to 47: every act in scenes on both sides of each bound, with arguments on both sides of each bound. The
 * finding that is due is the first in the order of the act's words; a refused act changes nothing but status(), and an
 * act that only looks changes nothing.
 */
public final class RefusalsTest {
  private static final int MIN = Integer.MIN_VALUE;
  private static final int MAX = Integer.MAX_VALUE;
  /** Calls of one object, so that no object comes to 512 calls. */
  private static final int BATCH = 80;

  /** Each act with how many findings its words ask for, and whether it may be allowed. */
  private static final String[] WORDS = {"house 2", "of 1", "change 1", "steep 1", "weather 1", "lend 2", "way 1", "send 2",
      "quarters 2", "now 1", "ahead 2", "cold 2", "bake 2", "best 2", "lost 2", "stay 2", "logs 2", "wall 2", "straw 2",
      "kindFor 2", "round 2", "takes 2", "three 2", "least 2", "pace 1", "thrift 2", "middle 1", "calls 2", "feed 2",
      "hold 1", "as 3", "sheet 3", "write 3", "copy 4", "load 2", "rounds 4", "diary 4", "judge 4", "image 0", "undo 1",
      "tear 0", "count 1", "status 1"};
  /** Findings (by their places in the words) that never are due at once. */
  private static final Set<String> NEVER = Set.of("as 1 2", "sheet 1 2", "write 0 1", "load 0 1", "copy 0 2", "rounds 0 1",
      "diary 0 1", "judge 0 1", "judge 0 3", "judge 1 3");

  /** Acts that change nothing when they are allowed, either. */
  private static final Set<String> LOOKING = Set.of("of", "way", "now", "ahead", "cold", "bake", "best", "lost", "stay",
      "logs", "wall", "straw", "kindFor", "round", "takes", "three", "least", "pace", "thrift", "middle", "as", "rounds",
      "diary", "judge", "count", "status");

  /** What was seen: an act with the place of the finding that is told, or with two that are due at once. */
  private static final TreeSet<String> seen = new TreeSet<>();
  private static int[] dueNow = new int[4];
  private static int asked;

  public static void main(String[] args) {
    for (Scene scene : Scene.all()) {
      houses(scene);
      quarters(scene);
      whereTo(scene);
      rounds(scene);
      texts(scene);
      sheets(scene);
    }
    allSeen();
    Due.end();
  }

  /** That no act's finding, nor two of them at once, were left out. */
  private static void allSeen() {
    Due.promise("all was tried");
    for (String words : WORDS) {
      String name = words.substring(0, words.indexOf(' '));
      int findings = words.charAt(words.length() - 1) - '0';
      Due.is(name + " allowed", seen.contains(name) ? 1 : 0, 1);
      for (int i = 0; i < findings; i++) {
        Due.is(name + " " + i, seen.contains(name + " " + i) ? 1 : 0, 1);
        for (int k = i + 1; k < findings; k++) {
          String two = name + " " + i + " " + k;
          Due.is(two, seen.contains(two) ? 1 : 0, NEVER.contains(two) ? 0 : 1);
        }
      }
    }
  }

  private static void houses(Scene s) {
    int[] house = {MIN, -2, -1, 0, 1, s.houses - 1, s.houses, s.houses + 1, 7, 8, MAX};
    act("2", s, "house", new int[] {MIN, -1, 0, 6, 7, MAX});
    act("3", s, "of", house, new int[] {MIN, -1, 0, 8, 9, MAX});
    act("4", s, "change", house, new int[] {MIN, -1, 0, 1, 2, 3, 4, 5, MAX},
        new int[] {MIN, -1, 0, 1, 6, 7, 40, 41, 99, 100, 400, 401, MAX});
    act("5", s, "steep", new int[] {MIN, -1, 0, 6, 7, MAX}, new int[] {MIN, -1, 0, 9, 10, MAX});
    act("6", s, "weather", new int[] {MIN, -1, 0, 1, 2, MAX}, new int[] {MIN, -1, 0, 1, 2, 100, 101, MAX});
    act("7", s, "lend", house, house, new int[] {MIN, -1, 0, 1, 2, 49, 50, 51, 99, 100, MAX});
    act("8", s, "way", house, house);
    act("9", s, "send", house);
  }

  private static void quarters(Scene s) {
    int[] house = {MIN, -1, 0, s.houses - 1, s.houses, 7, 8, MAX};
    int[] n = {MIN, -1, 0, 1, 2, 3, 95, 96, 97, MAX};
    act("10", s, "quarters", n);
    act("11", s, "now", new int[] {MIN, -1, 0, 6, 7, MAX});
    act("12", s, "ahead", n, new int[] {MIN, -1, 0, 3, 4, 3 + s.houses, 4 + s.houses, 11, 12, MAX});
    act("13", s, "cold", house);
    act("14", s, "bake", house);
  }

  private static void whereTo(Scene s) {
    int[] house = {MIN, -1, 0, s.houses - 1, s.houses, 7, 8, MAX};
    int[] n = {MIN, -1, 0, 1, 2, 3, 95, 96, 97, MAX};
    act("15", s, "best", n);
    act("16", s, "lost", n);
    act("17", s, "stay", house, new int[] {MIN, -1, 0, 1, 40, 41, MAX});
    act("18", s, "logs", house, n);
    act("19", s, "wall", house, n);
    act("20", s, "straw", n);
    act("21", s, "kindFor", house, n);
  }

  private static void rounds(Scene s) {
    int[] stay = {MIN, -1, 0, 1, 12, 13, MAX};
    act("22", s, "round", stay);
    act("23", s, "takes", stay);
    act("24", s, "three", stay);
    act("25", s, "least", stay);
    act("26", s, "pace");
    act("27", s, "thrift", stay);
    act("28", s, "middle");
    act("29", s, "calls", stay);
  }

  private static void texts(Scene s) {
    act("31", s, "feed", new int[] {MIN, -1, 0, ' ', MAX}, new int[] {MIN, -1, 0, 1, 2, 3, 4, 5, MAX});
    act("34", s, "hold", new int[] {MIN, -1, 0, 9, 10, MAX},
        new int[] {MIN, -2, -1, 0, s.houses - 1, s.houses, 7, 8, MAX});
    act("35", s, "as", new int[] {MIN, -1, 0, 1, 8, 9, 10, MAX}, new int[] {MIN, -1, 0, 1, 2, 3, 4, 5, 6, 7, MAX});
    act("43", s, "image");
    act("44", s, "undo");
    act("45", s, "tear");
    act("46", s, "count", new int[] {MIN, -1, 0, 7, 8, MAX});
    act("47", s, "status", new int[] {MIN, -2, -1, 0, 6, 7, MAX});
  }

  private static void sheets(Scene s) {
    int[] sheet = {MIN, -1, 0, 1, 2, 3, 4, MAX};
    int[] place = {MIN, -1, 0, 1, s.houses, s.houses + 1, 39, 40, 41, MAX};
    int[] stay = {MIN, -1, 0, 1, 12, 13, MAX};
    act("36", s, "sheet", sheet, new int[] {MIN, -8, -1, 0, 1, 7, 8, 9, 15, 16, 17, 24, 31, 32, 33, 64, MAX},
        new int[] {MIN, -1, 0, 40, 41, MAX});
    act("37", s, "write", sheet, place, new int[] {MIN, MAX});
    act("38", s, "copy", sheet, place, sheet, place, new int[] {MIN, -1, 0, 1, 3, 40, 41, MAX});
    act("39", s, "load", sheet);
    act("40", s, "rounds", sheet, stay);
    act("41", s, "diary", sheet, stay);
    act("42", s, "judge", sheet, new int[] {MIN, -1, 0, s.houses - 1, s.houses, 7, 8, MAX});
  }

  /** Tries an act with each given number in each place. */
  private static void act(String promise, Scene s, String name, int[]... given) {
    Due.promise(promise + " " + name + ", " + s.name);
    List<int[]> refused = new ArrayList<>();
    List<int[]> looking = new ArrayList<>();
    List<Integer> findings = new ArrayList<>();
    int[] at = new int[given.length];
    do {
      int[] a = new int[given.length];
      for (int i = 0; i < a.length; i++) {
        a[i] = given[i][at[i]];
      }
      int due = due(s, name, a);
      if (due == 0) {
        allowed(s, name, a);
        looking.add(a);
      } else {
        refused.add(a);
        findings.add(due);
      }
    } while (next(at, given));
    for (int i = 0; i < refused.size(); i += BATCH) {
      int end = Math.min(refused.size(), i + BATCH);
      refused(s, name, refused.subList(i, end), findings.subList(i, end));
    }
    for (int i = 0; i < looking.size() && LOOKING.contains(name); i += BATCH) {
      looks(s, name, looking.subList(i, Math.min(looking.size(), i + BATCH)));
    }
  }

  private static void looks(Scene s, String name, List<int[]> calls) {
    SledgeStove x = s.make();
    for (int[] a : calls) {
      Acts.call(x, name, a);
    }
    Due.is(name + " only looks", Scene.everything(x).equals(Scene.everything(s.make())) ? 1 : 0, 1);
  }

  /** Goes on to the next numbers; false behind the last. */
  private static boolean next(int[] at, int[][] given) {
    for (int i = 0; i < at.length; i++) {
      at[i]++;
      if (at[i] < given[i].length) {
        return true;
      }
      at[i] = 0;
    }
    return false;
  }

  private static void refused(Scene s, String name, List<int[]> calls, List<Integer> findings) {
    SledgeStove x = s.make();
    int[] counts = new int[7];
    for (int i = 0; i < calls.size(); i++) {
      Due.is(name + words(calls.get(i)), Acts.call(x, name, calls.get(i)), findings.get(i));
      counts[Due.BEYOND - findings.get(i)]++;
    }
    int all = 0;
    for (int which = 0; which <= 6; which++) {
      Due.is(name + ": status " + which, x.status(which), counts[which]);
      all += counts[which];
    }
    Due.is(name + ": status of all", x.status(-1), all);
    String now = Scene.everything(x);
    Due.is(name + " refused changes nothing", now.equals(Scene.everything(s.make())) ? 1 : 0, 1);
  }

  private static void allowed(Scene s, String name, int[] a) {
    SledgeStove x = s.make();
    int got = Acts.call(x, name, a);
    boolean free = name.equals("seed") || (name.equals("count") && a[0] == 6);
    boolean fine = free || got > Due.BEYOND || (got == Due.NONE && mayFindNone(name));
    Due.is(name + words(a) + " answered " + got + ": that no finding is due", fine ? 1 : 0, 1);
    Due.is(name + words(a) + ": status", x.status(-1), got == Due.NONE && !free ? 1 : 0);
  }

  private static String words(int[] a) {
    StringBuilder words = new StringBuilder();
    for (int v : a) {
      words.append(' ').append(v);
    }
    return words.toString();
  }

  private static boolean mayFindNone(String name) {
    return List.of("cold", "bake", "stay", "logs", "wall", "thrift").contains(name);
  }

  // ---- which finding is due, in the words of the document

  private static boolean out(int v, int low, int high) {
    return v < low || v > high;
  }

  private static boolean noHouse(Scene s, int house) {
    return out(house, 0, s.houses - 1);
  }

  private static boolean noSheet(int sheet) {
    return out(sheet, 0, 3);
  }

  private static boolean missing(Scene s, int sheet) {
    return !noSheet(sheet) && s.bits[sheet] == 0;
  }

  private static int length(Scene s, int sheet) {
    return noSheet(sheet) ? 0 : s.numbers[sheet].length;
  }

  private static boolean late(Scene s, int n) {
    return (long) s.quarter + n > 9999;
  }

  private static boolean stuck(Scene s, int latest) {
    return s.away || s.houses == 0 || s.quarter > latest;
  }

  /** The first finding that is due, 0 without; which others are due at once is kept in mind. */
  private static int due(Scene s, String name, int[] a) {
    asked = 0;
    fill(s, name, a);
    int first = -1;
    for (int i = 0; i < asked; i++) {
      if (dueNow[i] != 0 && first < 0) {
        first = i;
        seen.add(name + " " + i);
      } else if (dueNow[i] != 0) {
        seen.add(name + " " + first + " " + i);
      }
    }
    if (first < 0) {
      seen.add(name);
      return 0;
    }
    return dueNow[first];
  }

  private static void ask(int finding, boolean isDue) {
    dueNow[asked] = isDue ? finding : 0;
    asked++;
  }

  private static void fill(Scene s, String name, int[] a) {
    switch (name) {
      case "house":
        ask(Due.BEYOND, out(a[0], 0, 6));
        ask(Due.FULL, s.houses == 8);
        break;
      case "of":
        ask(Due.BEYOND, noHouse(s, a[0]) || out(a[1], 0, 8));
        break;
      case "change":
        ask(Due.BEYOND, noHouse(s, a[0]) || badChange(a[1], a[2]));
        break;
      case "steep":
        ask(Due.BEYOND, out(a[0], 0, 6) || out(a[1], 0, 9));
        break;
      case "weather":
        ask(Due.BEYOND, out(a[0], 0, 1) || out(a[1], 0, a[0] == 0 ? 1 : 100));
        break;
      case "lend":
        ask(Due.BEYOND, noHouse(s, a[0]) || noHouse(s, a[1]) || a[0] == a[1] || out(a[2], 1, 99));
        ask(Due.STATE, badLoan(s, a[0], a[1], a[2]));
        break;
      case "way":
        ask(Due.BEYOND, noHouse(s, a[0]) || noHouse(s, a[1]));
        break;
      case "send":
        ask(Due.BEYOND, noHouse(s, a[0]));
        ask(Due.STATE, s.away);
        break;
      case "quarters":
        ask(Due.BEYOND, out(a[0], 1, 96));
        ask(Due.STATE, late(s, a[0]));
        break;
      default:
        fillAhead(s, name, a);
    }
  }

  private static boolean badChange(int what, int v) {
    int[] low = {0, 0, 1, 0, 0};
    int[] high = {6, 400, 40, 99, 400};
    return out(what, 0, 4) || out(v, low[what], high[what]);
  }

  private static boolean badLoan(Scene s, int from, int to, int v) {
    boolean hasNot = !noHouse(s, from) && s.logs(from) < v;
    boolean tooMany = !noHouse(s, to) && (long) s.logs(to) + v > 99;
    return hasNot || tooMany;
  }

  private static void fillAhead(Scene s, String name, int[] a) {
    switch (name) {
      case "now":
        ask(Due.BEYOND, out(a[0], 0, 6));
        break;
      case "ahead":
        ask(Due.BEYOND, out(a[0], 0, 96) || out(a[1], 0, 3 + s.houses));
        ask(Due.STATE, late(s, a[0]));
        break;
      case "cold":
        ask(Due.BEYOND, noHouse(s, a[0]));
        ask(Due.STATE, s.quarter > 9903);
        break;
      case "bake":
        ask(Due.BEYOND, noHouse(s, a[0]));
        ask(Due.STATE, s.away || s.quarter > 9903);
        break;
      case "best":
      case "lost":
        ask(Due.BEYOND, out(a[0], 1, 96));
        ask(Due.STATE, s.away || s.houses == 0 || late(s, a[0]));
        break;
      case "stay":
        ask(Due.BEYOND, noHouse(s, a[0]) || out(a[1], 0, 40));
        ask(Due.STATE, s.away || s.quarter > 9800);
        break;
      case "logs":
      case "wall":
      case "kindFor":
        ask(Due.BEYOND, noHouse(s, a[0]) || out(a[1], 1, 96));
        ask(Due.STATE, late(s, a[1]));
        break;
      case "straw":
        ask(Due.BEYOND, out(a[0], 1, 96));
        ask(Due.STATE, s.houses == 0 || late(s, a[0]));
        break;
      default:
        fillRounds(s, name, a);
    }
  }

  private static void fillRounds(Scene s, String name, int[] a) {
    switch (name) {
      case "round":
      case "takes":
      case "three":
      case "least":
      case "thrift":
        ask(Due.BEYOND, out(a[0], 1, 12));
        ask(Due.STATE, stuck(s, 9700));
        break;
      case "pace":
        ask(Due.STATE, stuck(s, 9700));
        break;
      case "middle":
        ask(Due.NONE, s.houses == 0);
        break;
      case "calls":
        ask(Due.BEYOND, out(a[0], 1, 12));
        ask(Due.STATE, stuck(s, 8500));
        break;
      case "feed":
        ask(Due.BEYOND, out(a[1], 1, 4));
        ask(Due.FULL, (long) s.tape + a[1] > 120);
        break;
      case "undo":
        ask(Due.NONE, !s.kept);
        break;
      case "count":
        ask(Due.BEYOND, out(a[0], 0, 7));
        break;
      case "status":
        ask(Due.BEYOND, out(a[0], -1, 6));
        break;
      default:
        fillSheets(s, name, a);
    }
  }

  private static void fillSheets(Scene s, String name, int[] a) {
    switch (name) {
      case "hold":
        ask(Due.BEYOND, out(a[0], 0, 9) || (a[1] != -1 && noHouse(s, a[1])));
        break;
      case "as":
        boolean noSpot = out(a[0], 0, 9);
        ask(Due.BEYOND, noSpot || out(a[1], 0, 6));
        ask(Due.MISSING, !noSpot && s.spots[a[0]] < 0);
        ask(Due.KIND, !noSpot && s.spots[a[0]] >= 0 && !isA(s.kind(s.spots[a[0]]), a[1]));
        break;
      case "sheet":
        ask(Due.BEYOND, noSheet(a[0]) || !List.of(0, 8, 16, 32).contains(a[1]));
        ask(Due.SIZE, a[2] < 0);
        ask(Due.BEYOND, a[2] > 40);
        break;
      case "write":
        ask(Due.BEYOND, noSheet(a[0]));
        ask(Due.MISSING, missing(s, a[0]));
        ask(Due.BEYOND, out(a[1], 0, length(s, a[0]) - 1));
        break;
      case "copy":
        ask(Due.BEYOND, noSheet(a[0]) || noSheet(a[2]));
        ask(Due.MISSING, missing(s, a[0]) || missing(s, a[2]));
        ask(Due.KIND, !noSheet(a[0]) && !noSheet(a[2]) && s.bits[a[0]] != s.bits[a[2]]);
        ask(Due.BEYOND, a[1] < 0 || a[3] < 0 || a[4] < 0 || hasNot(s, a[0], a[1], a[4]) || hasNot(s, a[2], a[3], a[4]));
        break;
      case "load":
        ask(Due.BEYOND, noSheet(a[0]));
        ask(Due.MISSING, missing(s, a[0]));
        break;
      default:
        fillReaders(s, name, a);
    }
  }

  private static boolean hasNot(Scene s, int sheet, int from, int n) {
    return (long) from + n > length(s, sheet);
  }

  private static boolean isA(int kind, int other) {
    String[] above = {"0", "01", "02", "013", "024", "05", "056"};
    return !out(other, 0, 6) && above[kind].indexOf((char) ('0' + other)) >= 0;
  }

  private static void fillReaders(Scene s, String name, int[] a) {
    switch (name) {
      case "rounds":
        ask(Due.BEYOND, noSheet(a[0]));
        ask(Due.MISSING, missing(s, a[0]));
        ask(Due.BEYOND, out(a[1], 1, 12));
        ask(Due.STATE, !tellsHouses(s, a[0]) || s.away || s.quarter > 4000);
        break;
      case "diary":
        ask(Due.BEYOND, noSheet(a[0]));
        ask(Due.MISSING, missing(s, a[0]));
        ask(Due.BEYOND, out(a[1], 1, 12));
        ask(Due.STATE, stuck(s, 9700));
        break;
      case "judge":
        ask(Due.BEYOND, noSheet(a[0]));
        ask(Due.MISSING, missing(s, a[0]));
        ask(Due.BEYOND, noHouse(s, a[1]));
        ask(Due.STATE, late(s, length(s, a[0])));
        break;
      default:
        break;
    }
  }

  private static boolean tellsHouses(Scene s, int sheet) {
    if (noSheet(sheet)) {
      return true;
    }
    for (int v : s.numbers[sheet]) {
      if (noHouse(s, v)) {
        return false;
      }
    }
    return true;
  }
}
