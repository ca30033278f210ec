/** Promises 22 to 30: rounds, calls, draws; their edges and wrong inputs (ByHandTest has the ordinary ones at large). */
public final class RoundsTest {
  public static void main(String[] args) {
    round();
    three();
    pace();
    thrift();
    wrong();
    middle();
    calls();
    seed();
    Due.end();
  }

  private static void round() {
    Due.promise("22 round, 23 takes");
    SledgeStove x = Due.village("house wall 40;house wall 40;house wall 40", "steep 0 2;steep 1 3");
    Due.is("takes 1", x.takes(1), 8);
    Due.is("takes 12", x.takes(12), 41);
    // House 2 cools by 2 a quarter to 99, by 1 from then on: 7 quarters until the stove is there.
    Due.is("round", x.round(1), 92);
    x.weather(0, 1);
    Due.is("on ice", x.takes(1), 10);
    x.send(2);
    x.quarters(7);
    Due.is("from behind", x.takes(1), 17);
    Due.is("nothing changes", x.now(1), 2);
    SledgeStove y = Due.village("empty warm 0;empty warm 0");
    Due.is("none needs", y.round(3), 400);
    SledgeStove z = Due.village("house warm 400 wall 40");
    Due.is("a quarter's end is looked at, no begin", z.round(1), 391);
    SledgeStove cold = Due.village("house warm 0", "out 0");
    Due.is("the end of the first", cold.round(12), 36);
  }

  private static void three() {
    Due.promise("24 three, 25 least");
    SledgeStove x = Due.village("house warm 200 wall 40 logs 99;house wall 40 logs 99;house warm 60 wall 10 logs 99",
        "steep 0 1;steep 1 1");
    Due.is("three", x.three(2), 200);
    Due.is("least", x.least(2), 53);
    SledgeStove y = Due.village("empty;empty;empty");
    Due.is("all alike", y.three(1), 0);
    Due.is("400 without", y.least(1), 400);
    SledgeStove z = Due.village("house warm 0 logs 99;empty;empty", "out 0;steep 0 0;steep 1 0");
    Due.is("one alone", z.three(1), 0);
    Due.is("least of one", z.least(1), 36);
    SledgeStove all = new SledgeStove();
    for (int i = 0; i < 8; i++) {
      all.house(0);
      all.change(i, 1, i == 7 ? 30 : 400);
      all.change(i, 2, 40);
      all.steep(i, 0);
    }
    Due.is("the last house", all.three(1), 770);
    Due.is("its warmth", all.least(1), 69);
    Due.is("nothing changes", all.now(0), 0);
  }

  private static void pace() {
    Due.promise("26 pace");
    SledgeStove x = Due.village("house wall 40;house warm 60 wall 40");
    Due.is("soon", x.pace(), 1);
    Due.is("alike", Due.village("empty;house warm 20 logs 0").pace(), 1);
    paceOf("smithy warm 69 wall 13 logs 28;house warm 170 wall 23 logs 38;draughty warm 181 wall 17 logs 58",
        "steep 0 1;steep 1 0", 2);
    paceOf("joined warm 267 wall 39 logs 42;joined warm 339 wall 37 logs 74", "steep 0 7", 11);
    paceOf("empty warm 104 wall 39 logs 48;deep warm 293 wall 17 logs 7", "steep 0 4", 12);
    x.send(1);
    Due.is("on its way", x.pace(), Due.STATE);
    Due.is("no house", new SledgeStove().pace(), Due.STATE);
    SledgeStove z = Due.village("empty");
    Due.pass(z, 9700);
    Due.is("9700", z.pace(), 1);
    z.quarters(1);
    Due.is("9701", z.pace(), Due.STATE);
  }

  private static void paceOf(String houses, String ways, int due) {
    SledgeStove x = Due.village(houses, ways);
    Due.is("pace of " + houses, x.pace(), due);
    for (int stay = 1; stay <= 12; stay++) {
      boolean less = stay < due ? x.round(stay) < x.round(due) : x.round(stay) <= x.round(due);
      Due.is("no better stay " + stay, less ? 1 : 0, 1);
    }
  }

  private static void thrift() {
    Due.promise("27 thrift");
    SledgeStove x = Due.village("house wall 40 logs 99;empty;smithy wall 40 logs 99");
    Due.is("where none is burnt", x.thrift(2), 111);
    SledgeStove y = Due.village("house;smithy;house", "steep 0 0;steep 1 0");
    Due.is("the first of alike", y.thrift(1), 0);
    y.change(2, 1, 60);
    Due.is("one must be there at once", y.thrift(1), 200);
    y.change(1, 1, 60);
    Due.is("two at once", y.thrift(1), Due.NONE);
    SledgeStove z = Due.village("house logs 1", "out 0");
    Due.is("no logs are no matter", z.thrift(1), 0);
    z.change(0, 4, 400);
    Due.is("none", z.thrift(1), Due.NONE);
    Due.is("empty ones", Due.village("empty warm 0;empty warm 0").thrift(12), 0);
    SledgeStove cold = Due.village("house warm 59");
    Due.is("cold now is no matter", cold.thrift(1), 0);
  }

  private static void wrong() {
    SledgeStove x = Due.village("house;house bound 0");
    for (int stay : new int[] {0, -1, 13, Integer.MAX_VALUE, Integer.MIN_VALUE}) {
      answers("stay " + stay, x, stay, Due.BEYOND);
    }
    Due.is("nothing changes", x.now(0), 0);
    x.send(1);
    answers("on its way", x, 1, Due.STATE);
    answers("on its way, wrong", x, 0, Due.BEYOND);
    answers("no house", new SledgeStove(), 1, Due.STATE);
    answers("no house, wrong", new SledgeStove(), 13, Due.BEYOND);
    SledgeStove z = Due.village("empty");
    Due.pass(z, 9700);
    Due.is("round, 9700", z.round(12), 400);
    Due.is("takes, 9700", z.takes(12), 12);
    Due.is("three, 9700", z.three(12), 0);
    Due.is("least, 9700", z.least(12), 400);
    Due.is("thrift, 9700", z.thrift(12), 0);
    z.quarters(1);
    answers("9701", z, 1, Due.STATE);
    answers("9701, wrong", z, 0, Due.BEYOND);
  }

  private static void answers(String when, SledgeStove x, int stay, int due) {
    Due.promise("22 to 27, " + when);
    Due.is("round", x.round(stay), due);
    Due.is("takes", x.takes(stay), due);
    Due.is("three", x.three(stay), due);
    Due.is("least", x.least(stay), due);
    Due.is("thrift", x.thrift(stay), due);
  }

  private static void middle() {
    Due.promise("28 middle");
    SledgeStove x = new SledgeStove();
    Due.is("none", x.middle(), Due.NONE);
    x.house(0);
    Due.is("one", x.middle(), 0);
    x.house(0);
    Due.is("two alike", x.middle(), 0);
    x.house(0);
    Due.is("three", x.middle(), 1);
    x.house(0);
    x.house(0);
    Due.is("five", x.middle(), 2);
    x.steep(0, 0);
    x.steep(1, 0);
    x.steep(2, 0);
    x.steep(3, 9);
    Due.is("flat and far", x.middle(), 0);
    x.weather(0, 1);
    Due.is("on ice", x.middle(), 2);
    x.send(4);
    Due.is("on its way it may be asked", x.middle(), 2);
  }

  private static void calls() {
    Due.promise("29 calls");
    SledgeStove x = Due.village("house;house warm 10;house warm 10");
    for (int n : new int[] {0, -1, 13, Integer.MAX_VALUE, Integer.MIN_VALUE}) {
      Due.is("calls " + n, x.calls(n), Due.BEYOND);
    }
    Due.is("no draw yet", x.count(6), 1);
    int z = 1103515245 + 12345;
    int to = (z >>> 8) % 3;
    int way = x.way(0, to);
    Due.is("one call", x.calls(1), (to == 1 ? 0 : 1) + (to == 2 ? 0 : 1));
    Due.is("z", x.count(6), z);
    Due.is("it went there", x.now(1), to);
    Due.is("it stands", x.now(2), 0);
    Due.is("for two quarters", x.now(0), way + 2);
    x.seed(-5);
    z = -5 * 1103515245 + 12345;
    to = (z >>> 8) % 3;
    way = x.way(x.now(1), to);
    x.calls(1);
    Due.is("an ever positive draw", x.now(1), to);
    Due.is("z from the seed", x.count(6), z);
    x.send(x.now(1) == 0 ? 1 : 0);
    Due.is("on its way", x.calls(1), Due.STATE);
    Due.is("on its way, wrong", x.calls(13), Due.BEYOND);
    Due.is("no draw by it", x.count(6), z);
    Due.is("no house", new SledgeStove().calls(1), Due.STATE);
    SledgeStove late = Due.village("house");
    Due.pass(late, 8500);
    Due.is("8500", late.calls(12), 1);
    Due.is("24 quarters", late.now(0), 8524);
    Due.is("8524", late.calls(1), Due.STATE);
    SledgeStove later = Due.village("house");
    Due.pass(later, 8501);
    Due.is("8501", later.calls(1), Due.STATE);
    Due.is("no draw by it", later.count(6), 1);
  }

  private static void seed() {
    Due.promise("30 seed");
    SledgeStove x = new SledgeStove();
    Due.is("at first", x.seed(-1000001), 1);
    Due.is("may be any int", x.seed(Integer.MIN_VALUE), -1000001);
    Due.is("told", x.count(6), Integer.MIN_VALUE);
    Due.is("again", x.seed(0), Integer.MIN_VALUE);
    Due.is("no finding", x.status(-1), 0);
  }
}
