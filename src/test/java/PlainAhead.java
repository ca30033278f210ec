/**
 * Promises 12 to 29 and 40 to 42 once more, to compare with: each by quarters that are done one by one in a copy of a
 * plain village. The findings that are asked ahead are PlainStove's.
 */
final class PlainAhead {
  private PlainAhead() {
  }

  private static PlainVillage behind(PlainVillage now, int n) {
    PlainVillage then = now.copy();
    then.quarters(n);
    return then;
  }

  private static PlainVillage sent(PlainVillage now, int house) {
    PlainVillage then = now.copy();
    then.send(house);
    return then;
  }

  static int ahead(PlainVillage now, int n, int what) {
    PlainVillage then = now.copy();
    int loaves = then.quarters(n);
    int[] told = {then.coldSet(), then.least(), then.burnt - now.burnt, loaves};
    return what < 4 ? told[what] : then.house[what - 4][1];
  }

  static int cold(PlainVillage now, int house) {
    for (int n = 0; n <= 96; n++) {
      if (behind(now, n).isCold(house)) {
        return n;
      }
    }
    return Due.NONE;
  }

  static int bake(PlainVillage now, int house) {
    PlainVillage then = sent(now, house);
    for (int n = 1; n <= 96; n++) {
      then.quarters(1);
      if (then.house[house][5] > now.house[house][5]) {
        return n;
      }
    }
    return Due.NONE;
  }

  static int best(PlainVillage now, int n) {
    int[] least = new int[now.houses];
    for (int i = 0; i < now.houses; i++) {
      least[i] = behind(sent(now, i), n).least();
    }
    return firstGreatest(least);
  }

  static int lost(PlainVillage now, int n) {
    int set = 0;
    for (int house = 0; house < now.houses; house++) {
      boolean always = true;
      for (int i = 0; i < now.houses; i++) {
        always &= behind(sent(now, i), n).isCold(house);
      }
      set += always ? 1 << house : 0;
    }
    return set;
  }

  static int stay(PlainVillage now, int house, int n) {
    for (int k = 0; k <= 48; k++) {
      PlainVillage then = now.copy();
      then.quarters(then.send(house) + k);
      then.away = true;
      then.quarters(n);
      if (!then.isCold(house)) {
        return k;
      }
    }
    return Due.NONE;
  }

  /** The least number (what as in of()) with which a house isn't cold behind n quarters. */
  static int leastNumber(PlainVillage now, int house, int what, int low, int high, int n) {
    for (int v = low; v <= high; v++) {
      PlainVillage then = now.copy();
      then.house[house][what] = v;
      if (!behind(then, n).isCold(house)) {
        return v;
      }
    }
    return Due.NONE;
  }

  static int straw(PlainVillage now, int n) {
    int[] least = new int[now.houses];
    for (int i = 0; i < now.houses; i++) {
      PlainVillage then = now.copy();
      then.house[i][2] = Math.min(40, then.house[i][2] + 5);
      least[i] = behind(then, n).least();
    }
    return firstGreatest(least);
  }

  static int kindFor(PlainVillage now, int house, int n) {
    int[] warmth = new int[7];
    for (int kind = 0; kind <= 6; kind++) {
      PlainVillage then = now.copy();
      then.house[house][0] = kind;
      warmth[kind] = behind(then, n).house[house][1];
    }
    return firstGreatest(warmth);
  }

  private static int firstGreatest(int[] row) {
    int found = 0;
    for (int i = 1; i < row.length; i++) {
      if (row[i] > row[found]) {
        found = i;
      }
    }
    return found;
  }

  /** A ROUND, of which more houses may come: what it came to so far. */
  static final class Round {
    final PlainVillage village;
    int least = 400;
    boolean chilled = false;

    Round(PlainVillage now) {
      village = now.copy();
    }

    Round copy() {
      Round other = new Round(village);
      other.least = least;
      other.chilled = chilled;
      return other;
    }

    Round to(int house, int stay) {
      int n = village.send(house) + stay;
      for (int i = 0; i < n; i++) {
        village.quarters(1);
        least = Math.min(least, village.least());
        chilled |= village.coldSet() != 0;
      }
      return this;
    }
  }

  static Round round(PlainVillage now, int stay, int... row) {
    Round round = new Round(now);
    for (int house : row) {
      round.to(house, stay);
    }
    return round;
  }

  static Round whole(PlainVillage now, int stay) {
    int[] row = new int[now.houses];
    for (int i = 0; i < row.length; i++) {
      row[i] = i;
    }
    return round(now, stay, row);
  }

  static int pace(PlainVillage now) {
    int[] least = new int[12];
    for (int stay = 1; stay <= 12; stay++) {
      least[stay - 1] = whole(now, stay).least;
    }
    return 1 + firstGreatest(least);
  }

  /** What all rounds of three houses come to: three(), least(), thrift(), and diary() of a row of numbers. */
  static int[] threes(PlainVillage now, int stay, int... bread) {
    int three = 0;
    int least = -1;
    int thrift = Due.NONE;
    int fewest = 0;
    int diary = 0;
    for (int a = 0; a < now.houses; a++) {
      Round first = round(now, stay, a);
      for (int b = 0; b < now.houses; b++) {
        Round second = first.copy().to(b, stay);
        for (int c = 0; c < now.houses; c++) {
          Round third = second.copy().to(c, stay);
          int told = 100 * a + 10 * b + c;
          if (third.least > least) {
            least = third.least;
            three = told;
          }
          if (!third.chilled && (thrift < 0 || third.village.burnt < fewest)) {
            fewest = third.village.burnt;
            thrift = told;
          }
          diary += isTold(third.village, bread) ? 1 : 0;
        }
      }
    }
    return new int[] {three, least, thrift, diary};
  }

  private static boolean isTold(PlainVillage then, int[] bread) {
    for (int i = 0; i < bread.length && i < then.houses; i++) {
      if (then.house[i][5] != bread[i]) {
        return false;
      }
    }
    return true;
  }

  static int middle(PlainVillage now) {
    int[] sums = new int[now.houses];
    for (int i = 0; i < now.houses; i++) {
      for (int j = 0; j < now.houses; j++) {
        sums[i] -= now.way(i, j);
      }
    }
    return firstGreatest(sums);
  }

  /** These are no trials: the village itself goes on. */
  static int calls(PlainVillage now, int n) {
    for (int i = 0; i < n; i++) {
      int way = now.send((int) (now.draw() % now.houses));
      now.quarters(way);
      now.quarters(2);
    }
    return Integer.bitCount(now.coldSet());
  }

  static int judge(PlainVillage now, int house, int... warmths) {
    for (int i = 0; i < warmths.length; i++) {
      if (behind(now, 1 + i).house[house][1] != warmths[i]) {
        return 1 + i;
      }
    }
    return 0;
  }
}
