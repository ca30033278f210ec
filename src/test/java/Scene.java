import java.util.ArrayList;
import java.util.List;

/** A state to try acts in: made anew as often as is asked, with what of it the object doesn't tell. */
final class Scene {
  /** Bits (0: MISSING) and numbers of the four sheets. */
  final int[] bits = new int[4];
  final int[][] numbers = {{}, {}, {}, {}};
  /** What the spots hold. */
  final int[] spots = {-1, -1, -1, -1, -1, -1, -1, -1, -1, -1};
  final String name;
  final int houses;
  final int quarter;
  final boolean away;
  final int tape;
  boolean kept;

  private Scene(String name, int houses, int quarter, boolean away, int tape) {
    this.name = name;
    this.houses = houses;
    this.quarter = quarter;
    this.away = away;
    this.tape = tape;
  }

  /** Scenes on both sides of every bound that depends on what the village has. */
  static List<Scene> all() {
    List<Scene> all = new ArrayList<>();
    all.add(new Scene("nothing at all", 0, 0, false, 0));
    all.add(bare("one house", 1, 0, false));
    all.add(some("three houses", 3, 0, false, 116));
    all.add(some("on its way", 3, 0, true, 117));
    all.add(some("seven houses", 7, 1, false, 118));
    all.add(full("all that can be", 0, false));
    all.add(full("all, on its way", 9999, true));
    for (int quarter : new int[] {3999, 4000, 4001, 8500, 8501, 9700, 9701, 9800, 9801, 9902, 9903, 9904, 9997, 9998, 9999}) {
      all.add(some("quarter " + quarter, 2, quarter, false, 119));
    }
    for (int quarter : new int[] {4000, 4001, 9700, 9701, 9903, 9904, 9999}) {
      all.add(some("on its way, quarter " + quarter, 3, quarter, true, 120));
    }
    for (int quarter : new int[] {9700, 9903, 9999}) {
      all.add(bare("no houses, quarter " + quarter, 0, quarter, false));
    }
    return all;
  }

  /** Sheets of all bits without numbers. */
  private static Scene bare(String name, int houses, int quarter, boolean away) {
    Scene scene = new Scene(name, houses, quarter, away, 1);
    scene.bits[0] = 8;
    scene.bits[1] = 16;
    scene.bits[2] = 32;
    return scene;
  }

  private static Scene some(String name, int houses, int quarter, boolean away, int tape) {
    Scene scene = new Scene(name, houses, quarter, away, tape);
    scene.put(0, 8, 0, houses - 1, 0);
    scene.put(1, 8, houses, 0);
    scene.put(2, 16, 1, -1, 500, 99);
    scene.spots[0] = 0;
    scene.spots[9] = houses - 1;
    scene.kept = true;
    return scene;
  }

  private static Scene full(String name, int quarter, boolean away) {
    Scene scene = new Scene(name, 8, quarter, away, 120);
    scene.put(0, 8, new int[40]);
    scene.put(1, 8, new int[40]);
    scene.put(2, 16, new int[40]);
    scene.put(3, 32, new int[40]);
    scene.numbers[1][39] = 8;
    for (int spot = 0; spot < 10; spot++) {
      scene.spots[spot] = Math.min(spot, 7);
    }
    scene.kept = true;
    return scene;
  }

  private void put(int s, int newBits, int... row) {
    bits[s] = newBits;
    numbers[s] = row;
  }

  int kind(int house) {
    return house % 7;
  }

  int logs(int house) {
    return new int[] {50, 99, 1, 0, 98, 49, 2, 8}[house];
  }

  SledgeStove make() {
    SledgeStove x = new SledgeStove();
    Due.pass(x, quarter);
    for (int i = 0; i < houses; i++) {
      x.house(kind(i));
      x.change(i, 3, logs(i));
    }
    for (int s = 0; s < 4; s++) {
      if (bits[s] > 0) {
        x.sheet(s, bits[s], numbers[s].length);
        for (int i = 0; i < numbers[s].length; i++) {
          if (numbers[s][i] != 0) {
            x.write(s, i, numbers[s][i]);
          }
        }
      }
    }
    for (int spot = 0; spot < 10; spot++) {
      if (spots[spot] >= 0) {
        x.hold(spot, spots[spot]);
      }
    }
    if (kept) {
      x.image();
    }
    for (int i = 0; i < tape; i += 4) {
      int sign = i + 4 < tape ? ';' : ' ';
      x.feed('i' << 24 | 'c' << 16 | 'e' << 8 | sign, Math.min(4, tape - i));
    }
    if (away) {
      x.send(houses - 1);
    }
    return x;
  }

  /** All that can be seen of an object, also by acts that change it: behind this it is no longer as it was. */
  static String everything(SledgeStove x) {
    StringBuilder all = new StringBuilder();
    seen(x, all);
    for (int i = 0; i <= 6; i++) {
      all.append(" steep ").append(x.steep(i, 0));
    }
    all.append(" way ").append(x.now(2));
    for (int spot = 0; spot <= 9; spot++) {
      all.append(" spot ").append(x.as(spot, 0));
    }
    all.append(" text ").append(x.text());
    int houses = x.count(1);
    for (int s = 0; s < 4; s++) {
      all.append(" sheet ").append(x.load(s));
      for (int i = 0; i < houses; i++) {
        all.append(' ').append(x.of(i, 3));
      }
    }
    all.append(" kept ").append(x.undo());
    seen(x, all);
    return all.append(" torn ").append(x.tear()).toString();
  }

  private static void seen(SledgeStove x, StringBuilder all) {
    for (int what = 0; what <= 7; what++) {
      all.append(" count ").append(x.count(what));
    }
    for (int what = 0; what <= 6; what++) {
      all.append(" now ").append(x.now(what));
    }
    int houses = x.count(1);
    for (int i = 0; i < houses; i++) {
      for (int what = 0; what <= 8; what++) {
        all.append(" of ").append(x.of(i, what));
      }
    }
  }
}
