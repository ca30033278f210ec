/** Promises 12 to 29 and 40 to 42 at large: what looks ahead answers as the same acts, done one by one and undone. */
public final class ByHandTest {
  private static int z = 20261118;

  public static void main(String[] args) {
    for (int i = 0; i < 60; i++) {
      SledgeStove x = village(i);
      String name = "village " + i + ": ";
      Due.promise(name + "12 to 21");
      whereTo(x, 1 + draw(96));
      whereTo(x, 1 + draw(12));
      Due.promise(name + "22 to 29, 40 to 42");
      rounds(x, 1 + draw(12));
      rounds(x, 1 + draw(3));
      calls(x);
      judge(x);
      onItsWay(x);
    }
    Due.end();
  }

  private static int draw(int n) {
    z = z * 1664525 + 1013904223;
    return (z >>> 8) % n;
  }

  /** A village of its own kind for each number, with some quarters gone. */
  private static SledgeStove village(int number) {
    SledgeStove x = new SledgeStove();
    int houses = 1 + number % 8;
    int most = 60 + draw(340);
    for (int i = 0; i < houses; i++) {
      x.house(draw(7));
      x.change(i, 1, draw(most));
      x.change(i, 2, 1 + draw(40));
      x.change(i, 3, draw(2) == 0 ? draw(100) : draw(9));
      x.change(i, 4, draw(3) == 0 ? draw(200) : draw(50));
    }
    for (int i = 0; i <= 6; i++) {
      x.steep(i, draw(3) == 0 ? draw(10) : draw(2));
    }
    x.weather(0, draw(2));
    x.weather(1, draw(draw(2) == 0 ? 101 : 20));
    x.send(draw(houses));
    x.quarters(96);
    for (int i = 0; i < houses; i++) {
      x.change(i, 1, draw(most));
      x.change(i, 3, draw(2) == 0 ? draw(100) : draw(9));
    }
    x.seed(draw(1 << 24));
    return x;
  }

  private static int least(SledgeStove x) {
    int least = 400;
    for (int i = 0; i < x.count(1); i++) {
      if (x.of(i, 0) != 4) {
        least = Math.min(least, x.of(i, 1));
      }
    }
    return least;
  }

  private static int colds(SledgeStove x) {
    int set = 0;
    for (int i = 0; i < x.count(1); i++) {
      if (x.of(i, 0) != 4 && x.of(i, 1) < x.of(i, 4)) {
        set += 1 << i;
      }
    }
    return set;
  }

  private static void whereTo(SledgeStove x, int n) {
    int houses = x.count(1);
    ahead(x, n);
    int best = 0;
    int most = -1;
    int lost = 255;
    int straw = 0;
    int mostStraw = -1;
    for (int i = 0; i < houses; i++) {
      x.image();
      x.send(i);
      x.quarters(n);
      if (least(x) > most) {
        most = least(x);
        best = i;
      }
      lost &= colds(x);
      x.undo();
      x.change(i, 2, Math.min(40, x.of(i, 2) + 5));
      x.quarters(n);
      if (least(x) > mostStraw) {
        mostStraw = least(x);
        straw = i;
      }
      x.undo();
    }
    Due.is("best " + n, x.best(n), best);
    Due.is("lost " + n, x.lost(n), lost);
    Due.is("straw " + n, x.straw(n), straw);
    for (int i = 0; i < houses; i++) {
      Due.is("cold " + i, x.cold(i), firstCold(x, i));
      Due.is("bake " + i, x.bake(i), firstLoaf(x, i));
      Due.is("logs " + i + " " + n, x.logs(i, n), leastOf(x, i, n, 3, 0, 99));
      Due.is("wall " + i + " " + n, x.wall(i, n), leastOf(x, i, n, 2, 1, 40));
      Due.is("kindFor " + i + " " + n, x.kindFor(i, n), warmestKind(x, i, n));
      Due.is("stay " + i + " " + n % 41, x.stay(i, n % 41), shortestStay(x, i, n % 41));
    }
  }

  private static void ahead(SledgeStove x, int n) {
    int[] got = new int[12];
    for (int what = 0; what < 4 + x.count(1); what++) {
      got[what] = x.ahead(n, what);
    }
    x.image();
    int burnt = x.now(4);
    int bread = x.quarters(n);
    Due.is("ahead 0", got[0], colds(x));
    Due.is("now 3", x.now(3), colds(x));
    Due.is("ahead 1", got[1], least(x));
    Due.is("ahead 2", got[2], x.now(4) - burnt);
    Due.is("ahead 3", got[3], bread);
    for (int i = 0; i < x.count(1); i++) {
      Due.is("ahead " + (4 + i), got[4 + i], x.of(i, 1));
    }
    x.undo();
  }

  private static int firstCold(SledgeStove x, int house) {
    x.image();
    int found = Due.NONE;
    for (int n = 0; n <= 96 && found < 0; n++) {
      if ((colds(x) >> house & 1) == 1) {
        found = n;
      }
      x.quarters(1);
    }
    x.undo();
    return found;
  }

  private static int firstLoaf(SledgeStove x, int house) {
    x.image();
    int had = x.of(house, 5);
    int found = Due.NONE;
    x.send(house);
    for (int n = 1; n <= 96 && found < 0; n++) {
      x.quarters(1);
      if (x.of(house, 5) > had) {
        found = n;
      }
    }
    x.undo();
    return found;
  }

  private static int leastOf(SledgeStove x, int house, int n, int what, int low, int high) {
    x.image();
    int found = Due.NONE;
    for (int v = low; v <= high && found < 0; v++) {
      x.change(house, what, v);
      x.quarters(n);
      if ((colds(x) >> house & 1) == 0) {
        found = v;
      }
      x.undo();
    }
    return found;
  }

  private static int warmestKind(SledgeStove x, int house, int n) {
    x.image();
    int most = -1;
    int found = 0;
    for (int kind = 0; kind <= 6; kind++) {
      x.change(house, 0, kind);
      x.quarters(n);
      if (x.of(house, 1) > most) {
        most = x.of(house, 1);
        found = kind;
      }
      x.undo();
    }
    return found;
  }

  private static int shortestStay(SledgeStove x, int house, int n) {
    if (x.of(house, 0) == 4) {
      return 0;
    }
    x.image();
    int found = Due.NONE;
    for (int k = 0; k <= 48 && found < 0; k++) {
      int way = x.send(house);
      if (way + k > 0) {
        x.quarters(way + k);
      }
      // Without logs the stove heats nothing, as if it were taken away.
      x.change(house, 3, 0);
      if (n > 0) {
        x.quarters(n);
      }
      if (x.of(house, 1) >= x.of(house, 4)) {
        found = k;
      }
      x.undo();
    }
    return found;
  }

  /** What a round by hand comes to: its least warmth, logs, quarters, and whether a house was cold. */
  private static int least;
  private static int burnt;
  private static int took;
  private static boolean chilled;

  private static void walk(SledgeStove x, int stay, int... row) {
    least = 400;
    took = 0;
    chilled = false;
    int had = x.now(4);
    for (int house : row) {
      int n = x.send(house) + stay;
      took += n;
      for (int i = 0; i < n; i++) {
        x.quarters(1);
        least = Math.min(least, least(x));
        chilled |= colds(x) != 0;
      }
    }
    burnt = x.now(4) - had;
  }

  private static void rounds(SledgeStove x, int stay) {
    int houses = x.count(1);
    int[] all = new int[houses];
    for (int i = 0; i < houses; i++) {
      all[i] = i;
    }
    x.image();
    int pace = 0;
    int most = -1;
    for (int s = 1; s <= 12; s++) {
      walk(x, s, all);
      x.undo();
      Due.is("round " + s, x.round(s), least);
      Due.is("takes " + s, x.takes(s), took);
      if (least > most) {
        most = least;
        pace = s;
      }
    }
    Due.is("pace", x.pace(), pace);
    threes(x, stay, houses);
    walkSheet(x, stay, houses);
  }

  private static void threes(SledgeStove x, int stay, int houses) {
    int[] bread = new int[Math.min(houses, draw(9))];
    x.sheet(0, 16, bread.length);
    int three = 0;
    int most = -1;
    int thrift = Due.NONE;
    int fewest = 0;
    int diary = 0;
    walk(x, stay, draw(houses), draw(houses), draw(houses));
    for (int i = 0; i < bread.length; i++) {
      bread[i] = x.of(i, 5);
      x.write(0, i, bread[i]);
    }
    x.undo();
    for (int code = 0; code < houses * houses * houses; code++) {
      int a = code / houses / houses;
      int b = code / houses % houses;
      int c = code % houses;
      int told = 100 * a + 10 * b + c;
      walk(x, stay, a, b, c);
      if (least > most) {
        most = least;
        three = told;
      }
      if (!chilled && (thrift < 0 || burnt < fewest)) {
        fewest = burnt;
        thrift = told;
      }
      diary += asTold(x, bread) ? 1 : 0;
      x.undo();
    }
    Due.is("three " + stay, x.three(stay), three);
    Due.is("least " + stay, x.least(stay), most);
    Due.is("thrift " + stay, x.thrift(stay), thrift);
    Due.is("diary " + stay, x.diary(0, stay), diary);
  }

  private static boolean asTold(SledgeStove x, int[] bread) {
    for (int i = 0; i < bread.length; i++) {
      if (x.of(i, 5) != bread[i]) {
        return false;
      }
    }
    return true;
  }

  private static void walkSheet(SledgeStove x, int stay, int houses) {
    int n = draw(41);
    int[] row = new int[n];
    x.sheet(1, 8, n);
    for (int i = 0; i < n; i++) {
      row[i] = draw(houses);
      x.write(1, i, row[i]);
    }
    walk(x, stay, row);
    x.undo();
    Due.is("rounds " + stay, x.rounds(1, stay), least);
  }

  private static void calls(SledgeStove x) {
    int houses = x.count(1);
    int middle = 0;
    int shortest = Integer.MAX_VALUE;
    for (int i = 0; i < houses; i++) {
      int sum = 0;
      for (int j = 0; j < houses; j++) {
        sum += x.way(i, j);
      }
      if (sum < shortest) {
        shortest = sum;
        middle = i;
      }
    }
    Due.is("middle", x.middle(), middle);
    int n = 1 + draw(12);
    x.image();
    int drawn = x.count(6);
    for (int i = 0; i < n; i++) {
      drawn = drawn * 1103515245 + 12345;
      int way = x.send((drawn >>> 8) % houses);
      x.quarters(way + 2);
    }
    int cold = Integer.bitCount(colds(x));
    int warmth = x.count(4);
    int quarter = x.now(0);
    int at = x.now(1);
    x.undo();
    Due.is("calls " + n, x.calls(n), cold);
    Due.is("warmth", x.count(4), warmth);
    Due.is("quarter", x.now(0), quarter);
    Due.is("where", x.now(1), at);
    Due.is("z", x.count(6), drawn);
  }

  private static void judge(SledgeStove x) {
    int house = draw(x.count(1));
    int n = 1 + draw(40);
    x.sheet(2, 32, n);
    x.image();
    for (int i = 0; i < n; i++) {
      x.quarters(1);
      x.write(2, i, x.of(house, 1));
    }
    x.undo();
    Due.is("judge", x.judge(2, house), 0);
    int wrong = draw(n);
    x.write(2, wrong, -1);
    Due.is("judge of one wrong", x.judge(2, house), 1 + wrong);
  }

  private static void onItsWay(SledgeStove x) {
    int n = 1 + draw(96);
    x.send(draw(x.count(1)));
    ahead(x, n);
    int house = draw(x.count(1));
    Due.is("on its way: cold", x.cold(house), firstCold(x, house));
    Due.is("on its way: logs", x.logs(house, n), leastOf(x, house, n, 3, 0, 99));
    Due.is("on its way: wall", x.wall(house, n), leastOf(x, house, n, 2, 1, 40));
    Due.is("on its way: kindFor", x.kindFor(house, n), warmestKind(x, house, n));
  }
}
