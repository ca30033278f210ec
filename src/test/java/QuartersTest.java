/** Promises 9 to 14: sending the stove, quarters that go, looking ahead. */
public final class QuartersTest {
  public static void main(String[] args) {
    send();
    aQuarter();
    neighbours();
    logsRunOut();
    bread();
    quarters();
    now();
    ahead();
    cold();
    bake();
    Due.end();
  }

  private static void send() {
    Due.promise("9 send");
    SledgeStove x = Due.village("house;house;house", "steep 0 3;steep 1 0");
    Due.is("no house 3", x.send(3), Due.BEYOND);
    Due.is("no house -1", x.send(-1), Due.BEYOND);
    Due.is("to 2", x.send(2), 3);
    Due.is("goes to", x.now(1), 2);
    Due.is("goes yet", x.now(2), 3);
    Due.is("on its way", x.send(0), Due.STATE);
    Due.is("on its way, no house", x.send(3), Due.BEYOND);
    Due.is("it goes on", x.now(2), 3);
    x.weather(0, 1);
    Due.is("ice comes too late", x.now(2), 3);
    x.quarters(2);
    Due.is("on its way yet", x.send(2), Due.STATE);
    x.quarters(1);
    Due.is("none is heated on the way", x.now(4), 0);
    Due.is("there", x.send(2), 0);
    Due.is("flat on ice", x.send(1), 1);
    x.quarters(1);
    x.weather(0, 0);
    Due.is("at once", x.send(2), 0);
    Due.is("at once there", x.send(1), 0);
    Due.is("no quarter went by sending", x.now(0), 4);
    Due.is("none", new SledgeStove().send(0), Due.BEYOND);
  }

  /** Warmths behind one quarter at the stove and away from it, for each kind. */
  private static void aQuarter() {
    Due.promise("10 quarters: one");
    int[] from100 = {128, 128, 116, 125, 116, 128, 146};
    int[] away = {92, 92, 84, 96, 84, 92, 92};
    for (int kind = 0; kind <= 6; kind++) {
      SledgeStove x = new SledgeStove();
      x.house(kind);
      x.house(kind);
      x.house(kind);
      Due.is("one quarter", x.quarters(1), 0);
      Due.is("heated " + kind, x.of(0, 1), from100[kind]);
      Due.is("away " + kind, x.of(2, 1), away[kind]);
      Due.is("logs " + kind, x.of(0, 3), kind == 4 ? 8 : kind == 6 ? 6 : 7);
      Due.is("burnt " + kind, x.now(4), kind == 4 ? 0 : kind == 6 ? 2 : 1);
    }
    SledgeStove x = Due.village("house warm 390 wall 40;draughty warm 30 wall 1 bound 0;house warm 5");
    x.quarters(1);
    Due.is("400 at most", x.of(0, 1), 391);
    Due.is("0 at least", x.of(1, 1), 10);
    Due.is("below out", x.of(2, 1), 5);
    x = Due.village("house;draughty warm 200 wall 1");
    x.quarters(1);
    Due.is("no less than 0", x.of(1, 1), 0);
  }

  private static void neighbours() {
    Due.promise("10 quarters: neighbours");
    int[] gets = {0, 10, 0, 10, 0, 0, 0};
    for (int kind = 0; kind <= 6; kind++) {
      for (int at = 0; at <= 2; at++) {
        SledgeStove x = new SledgeStove();
        for (int i = 0; i < 3; i++) {
          x.house(i == at ? 0 : kind);
          x.change(i, 2, 40);
          x.change(i, 1, 20);
          x.steep(i, 0);
        }
        x.send(at);
        x.quarters(1);
        for (int i = 0; i < 3; i++) {
          int due = i == at ? 59 : Math.abs(i - at) == 1 ? 20 + gets[kind] : 20;
          Due.is("kind " + kind + ", stove at " + at + ", house " + i, x.of(i, 1), due);
        }
      }
    }
    heatOfAll("deep warm 20 wall 40;joined warm 20 wall 40", 27);
    heatOfAll("smithy warm 20 wall 40;joined warm 20 wall 40", 35);
    heatOfAll("smithy warm 200 wall 40;deep warm 20 wall 40", 25);
    heatOfAll("proud warm 190 wall 40;joined warm 20 wall 40", 30);
    heatOfAll("proud warm 200 wall 40;joined warm 20 wall 40", 20);
    heatOfAll("empty warm 20 wall 40;joined warm 20 wall 40", 30);
    heatOfAll("house warm 395 wall 40;joined warm 20 wall 40", 30);
    heatOfAll("house;joined warm 395 wall 40", 391);
    heatOfAll("house logs 0;joined warm 20", 20);
    heatOfAll("smithy logs 1;joined warm 20", 20);
  }

  private static void heatOfAll(String text, int due) {
    SledgeStove x = Due.village(text);
    x.quarters(1);
    Due.is(text, x.of(1, 1), due);
  }

  private static void logsRunOut() {
    Due.promise("10 quarters: logs");
    SledgeStove x = Due.village("house warm 20 logs 1;smithy warm 20 logs 3;empty warm 20 logs 0", "steep 0 0;steep 1 0");
    x.quarters(1);
    Due.is("heated", x.of(0, 1), 56);
    Due.is("logs", x.of(0, 3), 0);
    x.quarters(1);
    Due.is("no logs", x.of(0, 1), 53);
    x.send(1);
    x.quarters(2);
    Due.is("two of three", x.of(1, 3), 1);
    Due.is("burnt", x.now(4), 3);
    x.send(2);
    x.quarters(1);
    Due.is("without logs", x.of(2, 1), 52);
    Due.is("burnt none", x.now(4), 3);
  }

  private static void bread() {
    Due.promise("10 quarters: bread");
    bakes("house warm 159 wall 40", 1, 1);
    bakes("house warm 144 wall 40", 1, 1);
    bakes("house warm 143 wall 40", 1, 0);
    bakes("house warm 400 logs 0", 1, 0);
    bakes("house warm 400 logs 2", 4, 2);
    bakes("empty warm 400 logs 0", 1, 1);
    bakes("smithy warm 400 wall 40 logs 3", 4, 1);
    bakes("proud warm 400 wall 40", 3, 3);
    bakes("house;house warm 400 wall 40", 1, 0);
    SledgeStove x = Due.village("house warm 300 wall 40;house warm 300 wall 40");
    x.send(1);
    Due.is("not on its way", x.quarters(1), 0);
    Due.is("there", x.quarters(3), 3);
    Due.is("bread of 1", x.of(1, 5), 3);
    Due.is("bread of 0", x.of(0, 5), 0);
  }

  private static void bakes(String text, int n, int due) {
    Due.is(text, Due.village(text).quarters(n), due);
  }

  private static void quarters() {
    Due.promise("10 quarters");
    SledgeStove x = Due.village("house");
    for (int n : new int[] {0, -1, 97, Integer.MAX_VALUE, Integer.MIN_VALUE}) {
      Due.is("quarters " + n, x.quarters(n), Due.BEYOND);
    }
    Due.is("none went", x.now(0), 0);
    Due.pass(x, 9998);
    Due.is("9998", x.now(0), 9998);
    Due.is("too many", x.quarters(2), Due.STATE);
    Due.is("wrong and too many", x.quarters(97), Due.BEYOND);
    Due.is("stays", x.now(0), 9998);
    Due.is("the last", x.quarters(1), 0);
    Due.is("the end", x.now(0), 9999);
    Due.is("no more", x.quarters(1), Due.STATE);
    Due.is("ahead by 0", x.ahead(0, 0), 1);
    Due.is("ahead by 1", x.ahead(1, 0), Due.STATE);
    Due.is("ahead, no house", x.ahead(1, 5), Due.BEYOND);
    SledgeStove none = new SledgeStove();
    Due.is("without houses", none.quarters(96), 0);
    Due.is("it went", none.now(0), 96);
  }

  private static void now() {
    Due.promise("11 now");
    SledgeStove x = Due.village("house warm 59;empty warm 0;smithy warm 60;deep warm 0 bound 0;joined warm 399 bound 400",
        "steep 0 2;ice;out 33");
    int[] told = {0, 0, 0, 17, 0, 1, 33};
    for (int what = 0; what <= 6; what++) {
      Due.is("now " + what, x.now(what), told[what]);
    }
    x.quarters(2);
    x.send(1);
    x.quarters(1);
    int[] later = {3, 1, 2, 20, 2, 1, 33};
    for (int what = 0; what <= 6; what++) {
      Due.is("later " + what, x.now(what), later[what]);
    }
    for (int what : new int[] {-1, 7, Integer.MAX_VALUE, Integer.MIN_VALUE}) {
      Due.is("now " + what, x.now(what), Due.BEYOND);
    }
  }

  private static void ahead() {
    Due.promise("12 ahead");
    SledgeStove x = Due.village("house warm 150 wall 40 logs 3;draughty;empty warm 50 bound 400");
    Due.is("cold now", x.ahead(0, 0), 0);
    Due.is("least now", x.ahead(0, 1), 100);
    Due.is("burnt now", x.ahead(0, 2), 0);
    Due.is("bread now", x.ahead(0, 3), 0);
    Due.is("warmth now", x.ahead(0, 6), 50);
    Due.is("cold behind 4", x.ahead(4, 0), 2);
    Due.is("least behind 1", x.ahead(1, 1), 84);
    Due.is("least behind 2", x.ahead(2, 1), 72);
    Due.is("burnt behind 2", x.ahead(2, 2), 2);
    Due.is("burnt behind 9", x.ahead(9, 2), 3);
    Due.is("bread behind 9", x.ahead(9, 3), 3);
    Due.is("warmth behind 1", x.ahead(1, 4), 186);
    Due.is("warmth of the empty one", x.ahead(1, 6), 44);
    Due.is("no house 3", x.ahead(1, 7), Due.BEYOND);
    Due.is("no such what", x.ahead(1, -1), Due.BEYOND);
    Due.is("far what", x.ahead(1, Integer.MAX_VALUE), Due.BEYOND);
    Due.is("far back what", x.ahead(1, Integer.MIN_VALUE), Due.BEYOND);
    Due.is("n -1", x.ahead(-1, 0), Due.BEYOND);
    Due.is("n 97", x.ahead(97, 0), Due.BEYOND);
    Due.is("nothing changes", x.now(0), 0);
    Due.is("no logs go", x.count(2), 19);
    Due.is("no bread comes", x.count(3), 0);
    Due.is("warmth stays", x.count(4), 300);
    Due.is("none that needs", Due.village("empty warm 3").ahead(1, 1), 400);
    x.quarters(9);
    Due.is("burnt from now on", x.ahead(9, 2), 0);
    Due.is("bread from now on", x.ahead(9, 3), 0);
    SledgeStove y = new SledgeStove();
    Due.pass(y, 9903);
    Due.is("just so far", y.ahead(96, 0), 0);
    y.quarters(1);
    Due.is("too far", y.ahead(96, 0), Due.STATE);
    Due.is("wrong and too far", y.ahead(97, 0), Due.BEYOND);
  }

  private static void cold() {
    Due.promise("13 cold");
    SledgeStove x = Due.village("house logs 99 bound 60;house warm 59;house;empty warm 0;house bound 20");
    Due.is("heated", x.cold(0), Due.NONE);
    Due.is("now", x.cold(1), 0);
    Due.is("behind some", x.cold(2), 8);
    Due.is("empty", x.cold(3), Due.NONE);
    Due.is("never so cold", x.cold(4), Due.NONE);
    for (int house : new int[] {-1, 5, 8, Integer.MAX_VALUE}) {
      Due.is("cold " + house, x.cold(house), Due.BEYOND);
    }
    Due.is("nothing changes", x.now(0), 0);
    x.change(2, 3, 99);
    x.send(2);
    Due.is("on its way", x.cold(2), Due.NONE);
    SledgeStove y = Due.village("house warm 20 wall 1 logs 96 bound 60;house bound 20");
    Due.is("at the 96th", y.cold(0), 0);
    y.change(0, 4, 20);
    Due.is("not in 96", y.cold(0), Due.NONE);
    last();
    SledgeStove z = Due.village("house");
    Due.pass(z, 9903);
    Due.is("9903", z.cold(0), 0);
    z.quarters(1);
    Due.is("9904", z.cold(0), Due.STATE);
    Due.is("9904, no house", z.cold(1), Due.BEYOND);
  }

  /** A house that is warm as long as it is heated, and cold one quarter later. */
  private static void last() {
    SledgeStove x = Due.village("house warm 20 wall 1 logs 95 bound 10", "out 10");
    Due.is("never below out", x.cold(0), Due.NONE);
    SledgeStove y = Due.village("house warm 362 wall 10 logs 95 bound 362");
    Due.is("it keeps its warmth", y.ahead(95, 4), 362);
    Due.is("behind 96", y.cold(0), 96);
    y.change(0, 3, 96);
    Due.is("behind 97", y.cold(0), Due.NONE);
  }

  private static void bake() {
    Due.promise("14 bake");
    SledgeStove x = Due.village("house warm 142 wall 40;house warm 183 wall 40;house warm 400 logs 0;empty warm 400 wall 40",
        "steep 0 5;steep 1 0");
    Due.is("here", x.bake(0), 2);
    Due.is("there", x.bake(1), 6);
    Due.is("no logs", x.bake(2), Due.NONE);
    Due.is("empty", x.bake(3), 7);
    Due.is("no house", x.bake(4), Due.BEYOND);
    Due.is("house -1", x.bake(-1), Due.BEYOND);
    x.quarters(2);
    Due.is("one more", x.bake(0), 1);
    Due.is("nothing changes", x.now(1), 0);
    x.send(1);
    Due.is("on its way", x.bake(0), Due.STATE);
    Due.is("on its way, no house", x.bake(4), Due.BEYOND);
    SledgeStove far = Due.village("house;house;house;house;house;house;house",
        "deep warm 0 wall 3 logs 99;steep 0 9;steep 1 9;steep 2 9;steep 3 9", "steep 4 9;steep 5 9;steep 6 9;ice;out 30");
    Due.is("far and slowly", far.bake(7), 93);
    SledgeStove z = Due.village("empty wall 40");
    Due.pass(z, 9903);
    Due.is("9903", z.bake(0), 1);
    z.quarters(1);
    Due.is("9904", z.bake(0), Due.STATE);
  }
}
