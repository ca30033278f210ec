/** The terms of the document once more, in rows of numbers, to compare with: houses, ways, and quarters that go. */
final class PlainVillage {
  /** The kind above each kind; HOUSE has none. */
  private static final int[] ABOVE = {-1, 0, 0, 1, 2, 0, 5};

  /** KIND, WARMTH, WALL, LOGS, BOUND, BREAD of each house. */
  final int[][] house = new int[8][6];
  final int[] steep = {1, 1, 1, 1, 1, 1, 1};
  /** The house that each spot holds, or -1. */
  final int[] spot = {-1, -1, -1, -1, -1, -1, -1, -1, -1, -1};
  int houses = 0;
  int ice = 0;
  int out = 20;
  int at = 0;
  int left = 0;
  int quarter = 0;
  int burnt = 0;
  int z = 1;
  /** THE STOVE is taken away: it heats nothing. */
  boolean away = false;

  /** One like this, which goes on by itself. */
  PlainVillage copy() {
    PlainVillage other = new PlainVillage();
    for (int i = 0; i < houses; i++) {
      other.house[i] = house[i].clone();
    }
    System.arraycopy(steep, 0, other.steep, 0, steep.length);
    System.arraycopy(spot, 0, other.spot, 0, spot.length);
    other.houses = houses;
    other.ice = ice;
    other.out = out;
    other.at = at;
    other.left = left;
    other.quarter = quarter;
    other.burnt = burnt;
    other.z = z;
    other.away = away;
    return other;
  }

  void build(int kind) {
    house[houses] = new int[] {kind, 100, 10, 8, 60, 0};
    houses++;
  }

  boolean isA(int i, int kind) {
    for (int above = house[i][0]; above >= 0; above = ABOVE[above]) {
      if (above == kind) {
        return true;
      }
    }
    return false;
  }

  int heats(int i) {
    return heats(house[i][0], house[i][1]);
  }

  private static int heats(int kind, int warmth) {
    switch (kind) {
      case 0:
        return 40;
      case 3:
        return heats(1, warmth) - 10;
      case 5:
        return warmth >= 200 ? 0 : heats(0, warmth);
      case 6:
        return heats(5, warmth) + 20;
      default:
        return heats(ABOVE[kind], warmth);
    }
  }

  int loses(int i) {
    return loses(house[i][0], Math.max(0, (house[i][1] - out) / house[i][2]));
  }

  private static int loses(int kind, int asHouse) {
    switch (kind) {
      case 0:
        return asHouse;
      case 2:
        return 2 * loses(0, asHouse);
      case 3:
        return loses(1, asHouse) / 2;
      default:
        return loses(ABOVE[kind], asHouse);
    }
  }

  int burns(int i) {
    return burnsAs(house[i][0]);
  }

  private static int burnsAs(int kind) {
    switch (kind) {
      case 0:
        return 1;
      case 4:
        return 0;
      case 6:
        return burnsAs(5) + 1;
      default:
        return burnsAs(ABOVE[kind]);
    }
  }

  boolean needs(int i) {
    return house[i][0] != 4;
  }

  private static int gets(int kind, int heat) {
    switch (kind) {
      case 0:
        return 0;
      case 1:
        return heat / 4;
      default:
        return gets(ABOVE[kind], heat);
    }
  }

  int way(int from, int to) {
    int sum = 0;
    for (int i = 0; i < 7; i++) {
      if ((from <= i && i < to) || (to <= i && i < from)) {
        sum += steep[i] + ice;
      }
    }
    return sum;
  }

  int send(int to) {
    left = way(at, to);
    at = to;
    return left;
  }

  int quarters(int n) {
    int loaves = 0;
    for (int i = 0; i < n; i++) {
      loaves += quarterGoes();
    }
    return loaves;
  }

  private int quarterGoes() {
    boolean burns = !away && left == 0 && at < houses && house[at][3] >= burns(at);
    if (burns) {
      int heat = heats(at);
      house[at][3] -= burns(at);
      burnt += burns(at);
      house[at][1] = Math.min(400, house[at][1] + heat);
      for (int i = at - 1; i <= at + 1; i += 2) {
        if (i >= 0 && i < houses) {
          house[i][1] = Math.min(400, house[i][1] + gets(house[i][0], heat));
        }
      }
    }
    for (int i = 0; i < houses; i++) {
      house[i][1] = Math.max(0, house[i][1] - loses(i));
    }
    boolean bakes = burns && house[at][1] >= 180;
    if (bakes) {
      house[at][5]++;
    }
    left = Math.max(0, left - 1);
    quarter++;
    return bakes ? 1 : 0;
  }

  boolean isCold(int i) {
    return needs(i) && house[i][1] < house[i][4];
  }

  int coldSet() {
    int set = 0;
    for (int i = 0; i < houses; i++) {
      if (isCold(i)) {
        set |= 1 << i;
      }
    }
    return set;
  }

  /** The least WARMTH of those that NEED, 400 without. */
  int least() {
    int least = 400;
    for (int i = 0; i < houses; i++) {
      if (needs(i)) {
        least = Math.min(least, house[i][1]);
      }
    }
    return least;
  }

  /** The sum of one number of all houses, what as in of(). */
  int sum(int what) {
    int sum = 0;
    for (int i = 0; i < houses; i++) {
      sum += house[i][what];
    }
    return sum;
  }

  int held() {
    int held = 0;
    for (int house : spot) {
      held += house >= 0 ? 1 : 0;
    }
    return held;
  }

  /** The draws of the document by a long number, of which the lowest 32 bits are kept. */
  long draw() {
    z = (int) (z * 1103515245L + 12345L);
    return (z & 0xffffffffL) / 256;
  }
}
