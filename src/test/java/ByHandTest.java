import java.util.Arrays;

/**
 * Promises 12 to 29 and 40 to 42 at large: in villages of all sizes what looks ahead answers, for each house, as the same
 * quarters done one by one in a plain stove.
 */
public final class ByHandTest {
  private static int z = 20261118;

  private final SledgeStove x = new SledgeStove();
  private final PlainStove p = new PlainStove();
  private int calls = 0;

  public static void main(String[] args) {
    for (int i = 0; i < 160; i++) {
      String name = "village " + i + ": ";
      ByHandTest hand = new ByHandTest();
      Due.promise(name + "2 to 10");
      hand.build(1 + i % 8);
      Due.promise(name + "12 to 21");
      hand.whereTo(1 + draw(96));
      hand.whereTo(1 + draw(12));
      Due.promise(name + "22 to 29, 40 to 42");
      hand.rounds(1 + draw(12));
      hand.rounds(1 + draw(3));
      hand.calls();
      hand.judge();
      hand.onItsWay();
      Due.is("calls at most 512", hand.calls <= 512 ? 1 : 0, 1);
    }
    Due.end();
  }

  private static int draw(int n) {
    z = z * 1664525 + 1013904223;
    return (z >>> 8) % n;
  }

  private void ask(String act, int... a) {
    calls++;
    Due.is(act + " " + Arrays.toString(a), Acts.call(x, act, a), p.call(act, a));
  }

  /** A village with some quarters gone. */
  private void build(int houses) {
    int most = 60 + draw(340);
    for (int i = 0; i < houses; i++) {
      ask("house", draw(7));
      ask("change", i, 1, draw(most));
      ask("change", i, 2, 1 + draw(40));
      ask("change", i, 3, draw(2) == 0 ? draw(100) : draw(9));
      ask("change", i, 4, draw(3) == 0 ? draw(200) : draw(50));
    }
    for (int i = 0; i <= 6; i++) {
      ask("steep", i, draw(3) == 0 ? draw(10) : draw(2));
    }
    ask("weather", 0, draw(2));
    ask("weather", 1, draw(draw(2) == 0 ? 101 : 20));
    ask("send", draw(houses));
    ask("quarters", 96);
    for (int i = 0; i < houses; i++) {
      ask("change", i, 1, draw(most));
      ask("change", i, 3, draw(2) == 0 ? draw(100) : draw(9));
    }
    ask("seed", draw(1 << 24));
  }

  private void ahead(int n) {
    for (int what = 0; what < 4 + p.now.houses; what++) {
      ask("ahead", n, what);
    }
  }

  private void whereTo(int n) {
    ahead(n);
    ask("best", n);
    ask("lost", n);
    ask("straw", n);
    for (int i = 0; i < p.now.houses; i++) {
      ask("cold", i);
      ask("bake", i);
      ask("logs", i, n);
      ask("wall", i, n);
      ask("kindFor", i, n);
      ask("stay", i, n % 41);
    }
  }

  private void rounds(int stay) {
    for (int s = 1; s <= 12; s++) {
      ask("round", s);
      ask("takes", s);
    }
    ask("pace");
    ask("three", stay);
    ask("least", stay);
    ask("thrift", stay);
    diary(stay);
    int n = draw(41);
    ask("sheet", 1, 8, n);
    for (int i = 0; i < n; i++) {
      ask("write", 1, i, draw(p.now.houses));
    }
    ask("rounds", 1, stay);
  }

  private void diary(int stay) {
    int houses = p.now.houses;
    int n = Math.min(houses, draw(9));
    PlainVillage then = PlainAhead.round(p.now, stay, draw(houses), draw(houses), draw(houses)).village;
    ask("sheet", 0, 16, n);
    for (int i = 0; i < n; i++) {
      ask("write", 0, i, then.house[i][5]);
    }
    ask("diary", 0, stay);
    Due.is("diaries that fit", p.call("diary", 0, stay) > 0 ? 1 : 0, 1);
  }

  private void calls() {
    ask("middle");
    ask("calls", 1 + draw(12));
    ask("count", 4);
    ask("now", 0);
    ask("now", 1);
    ask("count", 6);
  }

  private void judge() {
    int house = draw(p.now.houses);
    int n = 1 + draw(40);
    ask("sheet", 2, 32, n);
    for (int i = 0; i < n; i++) {
      ask("write", 2, i, PlainAhead.ahead(p.now, 1 + i, 4 + house));
    }
    ask("judge", 2, house);
    Due.is("all are", p.call("judge", 2, house), 0);
    int wrong = draw(n);
    ask("write", 2, wrong, -1);
    ask("judge", 2, house);
    Due.is("one isn't", p.call("judge", 2, house), 1 + wrong);
  }

  private void onItsWay() {
    int n = 1 + draw(96);
    ask("send", draw(p.now.houses));
    ahead(n);
    int house = draw(p.now.houses);
    ask("cold", house);
    ask("logs", house, n);
    ask("wall", house, n);
    ask("kindFor", house, n);
  }
}
