/** Promises 2 to 11 and 46 at large: runs of acts, each followed by a look at all numbers, against a plain village. */
public final class PlainTest {
  private static final int[] WARMTHS = {0, 1, 2, 19, 20, 21, 59, 60, 99, 100, 101, 139, 140, 141, 179, 180, 181, 199, 200,
      201, 360, 361, 390, 399, 400};
  private static final int[] WALLS = {1, 2, 3, 10, 39, 40};
  private static final int[] LOGS = {0, 1, 2, 3, 4, 50, 98, 99};
  private static final int[] OUTS = {0, 1, 19, 20, 21, 99, 100};

  private static int z = 7;

  public static void main(String[] args) {
    for (int run = 0; run < 1500; run++) {
      Due.promise("2 to 11, run " + run);
      SledgeStove x = new SledgeStove();
      PlainVillage p = new PlainVillage();
      int acts = 1 + draw(8);
      for (int i = 0; i < acts; i++) {
        if (draw(3) > 0) {
          build(x, p);
        }
        act(x, p);
      }
      same(x, p);
      send(x, p);
      for (int i = 0; i < 3; i++) {
        go(x, p, draw(2) == 0 ? 1 + draw(3) : 1 + draw(96));
        act(x, p);
      }
    }
    Due.end();
  }

  private static int draw(int n) {
    z = z * 1664525 + 1013904223;
    return (z >>> 8) % n;
  }

  private static int one(int[] row) {
    return row[draw(row.length)];
  }

  private static void build(SledgeStove x, PlainVillage p) {
    int kind = draw(7);
    if (p.houses == 8) {
      Due.is("house", x.house(kind), Due.FULL);
      return;
    }
    Due.is("house", x.house(kind), p.houses);
    p.build(kind);
    change(x, p, p.houses - 1, 1, one(WARMTHS));
    change(x, p, p.houses - 1, 2, draw(2) == 0 ? one(WALLS) : 1 + draw(40));
    change(x, p, p.houses - 1, 3, one(LOGS));
  }

  private static void change(SledgeStove x, PlainVillage p, int house, int what, int v) {
    Due.is("change " + what, x.change(house, what, v), p.house[house][what]);
    p.house[house][what] = v;
  }

  private static void act(SledgeStove x, PlainVillage p) {
    int i = draw(7);
    int v = draw(3) == 0 ? draw(10) : draw(2);
    Due.is("steep " + i, x.steep(i, v), p.steep[i]);
    p.steep[i] = v;
    v = draw(2);
    Due.is("ice", x.weather(0, v), p.ice);
    p.ice = v;
    v = one(OUTS);
    Due.is("out", x.weather(1, v), p.out);
    p.out = v;
    if (p.houses > 0) {
      i = draw(p.houses);
      change(x, p, i, 4, draw(2) == 0 ? draw(401) : p.house[i][1]);
      change(x, p, draw(p.houses), 0, draw(7));
      lend(x, p, draw(p.houses), draw(p.houses), one(LOGS));
    }
  }

  private static void lend(SledgeStove x, PlainVillage p, int from, int to, int v) {
    int due = p.house[to][3] + v;
    if (from == to || v == 0) {
      due = Due.BEYOND;
    } else if (p.house[from][3] < v || due > 99) {
      due = Due.STATE;
    } else {
      p.house[from][3] -= v;
      p.house[to][3] = due;
    }
    Due.is("lend", x.lend(from, to, v), due);
  }

  private static void send(SledgeStove x, PlainVillage p) {
    if (p.houses > 0) {
      int to = draw(p.houses);
      Due.is("send " + to, x.send(to), p.left > 0 ? Due.STATE : p.send(to));
    }
  }

  private static void go(SledgeStove x, PlainVillage p, int n) {
    Due.is("quarters " + n, x.quarters(n), p.quarters(n));
    same(x, p);
    send(x, p);
  }

  private static void same(SledgeStove x, PlainVillage p) {
    int[] now = {p.quarter, p.at, p.left, p.coldSet(), p.burnt, p.ice, p.out};
    for (int what = 0; what < now.length; what++) {
      Due.is("now " + what, x.now(what), now[what]);
    }
    int[] sums = new int[6];
    for (int i = 0; i < p.houses; i++) {
      for (int what = 0; what <= 5; what++) {
        Due.is("of " + i + " " + what, x.of(i, what), p.house[i][what]);
        sums[what] += p.house[i][what];
      }
      Due.is("heats " + i, x.of(i, 6), p.heats(i));
      Due.is("loses " + i, x.of(i, 7), p.loses(i));
      Due.is("burns " + i, x.of(i, 8), p.burns(i));
      Due.is("way to " + i, x.way(p.at, i), p.way(p.at, i));
    }
    int[] counts = {p.quarter, p.houses, sums[3], sums[5], sums[1], 0, 1, 0};
    for (int what = 0; what < counts.length; what++) {
      Due.is("count " + what, x.count(what), counts[what]);
    }
  }
}
