import java.util.Arrays;
import java.util.Map;
import java.util.TreeMap;

/**
 * Promises 1 to 47 at large: runs of any acts on a new object, each answer against a plain stove. A run has 512 calls, as
 * many as an object is used for; the last is asked like the first.
 */
public final class RunsTest {
  private static final int CALLS = 512;
  private static final int RUNS = 500;

  /**
   * The acts with what is given to them: h a house, s a sheet, m a number of any of its meanings, any int, or from:to.
   */
  private static final String[] ACTS = {"house 0:6", "of h 0:8", "of h 0:8", "change h 0:4 m", "change h 0:4 m",
      "change h 1:1 0:400", "change h 3:3 0:99", "change h 4:4 0:150", "steep 0:6 0:9", "steep 0:6 0:1", "weather 0:1 0:1",
      "weather 1:1 0:100", "lend h h 1:20", "lend h h 1:99", "way h h", "send h", "send h", "send h", "quarters 1:96",
      "quarters 1:4", "quarters 1:9", "now 0:6", "now 0:6", "ahead 0:96 0:11", "ahead 0:12 0:11", "cold h", "bake h",
      "best 1:96", "best 1:9", "lost 1:96", "lost 1:9", "stay h 0:40", "stay h 0:5", "logs h 1:96", "logs h 1:9",
      "wall h 1:96", "wall h 1:9", "straw 1:96", "straw 1:9", "kindFor h 1:96", "kindFor h 1:9", "round 1:12",
      "takes 1:12", "three 1:12", "three 1:2", "least 1:12", "least 1:2", "pace", "thrift 1:12", "thrift 1:2", "middle",
      "calls 1:12", "calls 1:1", "seed any", "feed any 1:4", "wipe", "text", "hold 0:9 h", "hold 0:9 -1:-1", "as 0:9 0:6",
      "as 0:9 0:6", "sheet s 0:32 0:40", "write s 0:40 m", "write s 0:9 h", "copy s 0:4 s 0:4 0:4", "load s", "rounds s 1:12",
      "diary s 1:12", "judge s h", "image", "image", "undo", "tear", "count 0:7", "count 0:7", "status -1:6", "status -1:6"};
  private static final String[] KINDS = {"house", "joined", "draughty", "deep", "empty", "proud", "smithy"};
  private static final String[] PARTS = {"warm", "wall", "logs", "bound"};
  private static final int[] MOST = {400, 40, 99, 400};
  private static final int[] FAR = {Integer.MIN_VALUE, Integer.MIN_VALUE + 1, -1000001, 1 << 16, 1 << 24,
      Integer.MAX_VALUE - 1, Integer.MAX_VALUE};

  private static final Map<String, Integer> seen = new TreeMap<>();
  private static int z = 512;

  private SledgeStove x = new SledgeStove();
  private PlainStove p = new PlainStove();
  private int left = CALLS;
  private final int odd;

  private RunsTest(int odd) {
    this.odd = odd;
  }

  public static void main(String[] args) {
    for (int i = 0; i < RUNS; i++) {
      Due.promise("1 to 47, run " + i);
      new RunsTest(i % 5 == 0 ? 6 : 40).run(i);
    }
    Due.promise("all acts were tried");
    for (String act : ACTS) {
      String name = act.split(" ")[0];
      Due.is(name + " allowed often", seen.getOrDefault(name, 0) >= 50 ? 1 : 0, 1);
    }
    for (String name : new String[] {"cold", "bake", "stay", "logs", "wall", "thrift"}) {
      Due.is(name + " NONE", seen.getOrDefault(name + " " + Due.NONE, 0) >= 100 ? 1 : 0, 1);
    }
    Due.is("FAULTS", seen.getOrDefault("a FAULT", 0) >= 100 ? 1 : 0, 1);
    Due.end();
  }

  private static int draw(int n) {
    z = z * 1664525 + 1013904223;
    return (z >>> 8) % n;
  }

  private void ask(String act, int... a) {
    if (left == 8 && !act.equals("status")) {
      return;
    }
    left--;
    int due = p.call(act, a);
    int got = Acts.call(x, act, a);
    Due.is("call " + (CALLS - left) + ", " + act + " " + Arrays.toString(a), got, due);
    boolean finding = due <= Due.BEYOND && due >= Due.SIZE;
    boolean fault = act.equals("text") && due < 0;
    seen.merge(finding ? act + " " + due : fault ? "a FAULT" : act, 1, Integer::sum);
  }

  private void run(int number) {
    if (number % 4 == 1) {
      goOn(new int[] {3960, 4000, 8480, 8500, 9690, 9700, 9800, 9890, 9903, 9960, 9990, 9999}[draw(12)]);
    }
    build(number % 9);
    while (left > 8) {
      int what = draw(60);
      if (what == 0) {
        text();
      } else if (what == 1) {
        diary();
      } else if (what == 2) {
        judge();
      } else if (what == 3) {
        rounds();
      } else {
        any();
      }
    }
    for (int which = 6; which >= -1; which--) {
      ask("status", which);
    }
    Due.is("calls left", left, 0);
  }

  private void goOn(int quarter) {
    while (p.now.quarter < quarter) {
      ask("quarters", Math.min(96, quarter - p.now.quarter));
    }
  }

  private void build(int houses) {
    int most = 60 + draw(340);
    for (int i = 0; i < houses; i++) {
      ask("house", draw(7));
      ask("change", i, 1, draw(most));
      ask("change", i, 2, 1 + draw(40));
      ask("change", i, 3, draw(2) == 0 ? draw(100) : draw(9));
      ask("change", i, 4, draw(3) == 0 ? draw(200) : draw(50));
    }
    for (int i = 0; i < 7 && draw(3) > 0; i++) {
      ask("steep", i, draw(3) == 0 ? draw(10) : draw(2));
    }
    if (draw(2) == 0) {
      ask("weather", 1, draw(101));
    }
  }

  private void any() {
    String[] act = ACTS[draw(ACTS.length)].split(" ");
    boolean dear = act[0].equals("three") || act[0].equals("least") || act[0].equals("thrift") || act[0].equals("diary");
    if (dear && draw(4) > 0) {
      return;
    }
    int[] a = new int[act.length - 1];
    for (int i = 0; i < a.length; i++) {
      a[i] = given(act[i + 1]);
    }
    if (act[0].equals("sheet") && draw(8) > 0) {
      a[1] = a[1] / 10 * 8 == 24 ? 32 : a[1] / 10 * 8;
    }
    ask(act[0], a);
  }

  private int given(String domain) {
    if (draw(odd) == 0 && draw(4) == 0) {
      return FAR[draw(FAR.length)];
    }
    switch (domain) {
      case "h":
        return range(0, Math.max(0, p.now.houses - 1));
      case "s":
        return range(0, 3);
      case "m":
        return range(0, new int[] {1, 6, 40, 99, 400}[draw(5)]);
      case "any":
        return z = z * 1664525 + 1013904223;
      default:
        String[] bounds = domain.split(":");
        return range(Integer.parseInt(bounds[0]), Integer.parseInt(bounds[1]));
    }
  }

  private int range(int low, int high) {
    if (draw(odd) == 0) {
      return draw(2) == 0 ? low - 1 : high + 1;
    }
    return low + draw(high - low + 1);
  }

  private void text() {
    if (draw(4) > 0) {
      ask("wipe");
    }
    StringBuilder text = new StringBuilder(item());
    for (int items = draw(5); items > 0; items--) {
      text.append(draw(4) == 0 ? " ; " : ";").append(item());
    }
    if (draw(3) == 0) {
      spoil(text);
    }
    int bytes = Math.min(text.length(), 120 - p.tape.length());
    for (int i = 0; i < bytes; i += 4) {
      int n = Math.min(4, bytes - i);
      int fed = -1;
      for (int k = 0; k < n; k++) {
        fed = fed << 8 | text.charAt(i + k);
      }
      ask("feed", fed, n);
    }
    ask("text");
    ask("count", draw(5));
    ask("now", draw(7));
  }

  private static String item() {
    switch (draw(8)) {
      case 0:
        return "steep" + number(6) + " " + number(9);
      case 1:
        return "out" + number(100);
      case 2:
        return "ice";
      case 3:
        return "thaw";
      default:
        StringBuilder house = new StringBuilder(KINDS[draw(7)]);
        for (int part = 0; part < PARTS.length; part++) {
          if (draw(3) == 0) {
            house.append(" ").append(PARTS[part]).append(number(MOST[part]));
          }
        }
        return house.toString();
    }
  }

  /** A number up to most, seldom one more, perhaps with a blank or noughts before it. */
  private static String number(int most) {
    int v = draw(25) == 0 ? most + 1 : draw(4) == 0 ? most : draw(most + 1);
    return (draw(5) == 0 ? "" : " ") + (draw(6) == 0 ? "00" : "") + v;
  }

  private static void spoil(StringBuilder text) {
    int at = draw(text.length());
    switch (draw(4)) {
      case 0:
        text.setCharAt(at, (char) draw(256));
        break;
      case 1:
        text.setCharAt(at, "; 09azw".charAt(draw(7)));
        break;
      case 2:
        text.setLength(at);
        break;
      default:
        text.insert(at, text.substring(at));
    }
  }

  private int sheet(int n) {
    int s = draw(4);
    ask("sheet", s, 16 << draw(2), n);
    return s;
  }

  /** A sheet that tells what bread a round of three leaves. */
  private void diary() {
    if (p.now.houses == 0 || p.now.left > 0) {
      return;
    }
    int stay = 1 + draw(4);
    int houses = p.now.houses;
    PlainVillage then = PlainAhead.round(p.now, stay, draw(houses), draw(houses), draw(houses)).village;
    int s = sheet(draw(10));
    for (int i = 0; i < houses && i < p.sheets[s].length; i++) {
      ask("write", s, i, then.house[i][5]);
    }
    ask("diary", s, stay);
  }

  /** A sheet that tells how warm a house gets; perhaps one number isn't so. */
  private void judge() {
    if (p.now.houses == 0) {
      return;
    }
    int house = draw(p.now.houses);
    int n = draw(9);
    int s = sheet(n);
    for (int i = 0; i < n && p.sheets[s] != null; i++) {
      ask("write", s, i, PlainAhead.ahead(p.now, 1 + i, 4 + house) + (draw(12) == 0 ? 1 : 0));
    }
    ask("judge", s, house);
  }

  private void rounds() {
    int n = draw(9);
    int s = sheet(n);
    for (int i = 0; i < n; i++) {
      ask("write", s, i, range(0, Math.max(0, p.now.houses - 1)));
    }
    ask("rounds", s, 1 + draw(12));
  }
}
