/** Promises 15 to 21: where to, how long; their edges and wrong inputs (ByHandTest has the ordinary ones at large). */
public final class WhereToTest {
  public static void main(String[] args) {
    best();
    lost();
    stay();
    logs();
    wall();
    straw();
    kindFor();
    Due.end();
  }

  private static void best() {
    Due.promise("15 best");
    SledgeStove x = Due.village("house;house;house");
    Due.is("all alike", x.best(1), 0);
    x.change(1, 1, 50);
    x.change(2, 1, 40);
    Due.is("the coldest is far", x.best(2), 0);
    Due.is("it comes in time", x.best(3), 2);
    Due.is("none needs", Due.village("empty;empty").best(5), 0);
    Due.is("two alike", Due.village("empty;house warm 10;house warm 10", "steep 0 0;steep 1 0").best(1), 0);
    Due.is("the colder", Due.village("empty;house warm 10;house warm 9", "steep 0 0;steep 1 0").best(1), 2);
    badNumber(x);
    Due.is("nothing changes", x.now(1), 0);
    x.send(1);
    Due.is("on its way", x.best(1), Due.STATE);
    Due.is("on its way, wrong", x.best(0), Due.BEYOND);
    Due.is("no house", new SledgeStove().best(1), Due.STATE);
    SledgeStove y = Due.village("house");
    Due.pass(y, 9998);
    Due.is("9998", y.best(1), 0);
    Due.is("too far", y.best(2), Due.STATE);
    Due.is("wrong and too far", y.best(97), Due.BEYOND);
  }

  private static void badNumber(SledgeStove x) {
    for (int n : new int[] {0, -1, 97, Integer.MAX_VALUE, Integer.MIN_VALUE}) {
      Due.is("best " + n, x.best(n), Due.BEYOND);
      Due.is("lost " + n, x.lost(n), Due.BEYOND);
      Due.is("logs " + n, x.logs(0, n), Due.BEYOND);
      Due.is("wall " + n, x.wall(0, n), Due.BEYOND);
      Due.is("straw " + n, x.straw(n), Due.BEYOND);
      Due.is("kindFor " + n, x.kindFor(0, n), Due.BEYOND);
    }
    for (int house : new int[] {-1, 3, 8, Integer.MAX_VALUE, Integer.MIN_VALUE}) {
      Due.is("stay at " + house, x.stay(house, 1), Due.BEYOND);
      Due.is("logs of " + house, x.logs(house, 1), Due.BEYOND);
      Due.is("wall of " + house, x.wall(house, 1), Due.BEYOND);
      Due.is("kindFor " + house, x.kindFor(house, 1), Due.BEYOND);
    }
  }

  private static void lost() {
    Due.promise("16 lost");
    SledgeStove x = Due.village("house warm 50;house warm 10;empty warm 0;house warm 200", "steep 0 0;steep 1 0;steep 2 0");
    Due.is("one may be helped", x.lost(1), 2);
    x.change(1, 4, 5);
    Due.is("each may be helped", x.lost(1), 0);
    x.change(1, 4, 400);
    x.change(0, 3, 0);
    Due.is("two can't", x.lost(1), 3);
    Due.is("the 96th", x.lost(96), 11);
    Due.is("nothing changes", x.now(1), 0);
    x.steep(0, 2);
    x.send(1);
    Due.is("on its way", x.lost(1), Due.STATE);
    Due.is("on its way, wrong", x.lost(0), Due.BEYOND);
    Due.is("no house", new SledgeStove().lost(1), Due.STATE);
    SledgeStove y = Due.village("house");
    Due.pass(y, 9998);
    Due.is("9998", y.lost(1), 1);
    Due.is("too far", y.lost(2), Due.STATE);
  }

  private static void stay() {
    Due.promise("17 stay");
    SledgeStove x = Due.village("house;house warm 40;empty warm 0;house warm 20 logs 99 bound 400",
        "steep 0 4;steep 1 0");
    Due.is("warm enough", x.stay(0, 0), 0);
    Due.is("a while", x.stay(0, 8), 1);
    Due.is("the way there cools", x.stay(1, 0), 1);
    Due.is("and the time behind", x.stay(1, 8), 3);
    Due.is("empty", x.stay(2, 40), 0);
    Due.is("never", x.stay(3, 0), Due.NONE);
    x.change(1, 3, 0);
    Due.is("no logs", x.stay(1, 0), Due.NONE);
    Due.is("n -1", x.stay(0, -1), Due.BEYOND);
    Due.is("n 41", x.stay(0, 41), Due.BEYOND);
    Due.is("n 40", x.stay(0, 40), Due.NONE);
    Due.is("nothing changes", x.count(2), 115);
    x.send(1);
    Due.is("on its way", x.stay(0, 0), Due.STATE);
    Due.is("on its way, wrong", x.stay(0, 41), Due.BEYOND);
    most();
    longest();
    SledgeStove y = Due.village("empty");
    Due.pass(y, 9800);
    Due.is("9800", y.stay(0, 40), 0);
    y.quarters(1);
    Due.is("9801", y.stay(0, 0), Due.STATE);
  }

  /** A wall of 40: 39 more warm a quarter at first, ever less; how long until 400 less a loss are reached. */
  private static void most() {
    SledgeStove x = Due.village("house warm 0 wall 1 logs 99 bound 47", "out 0");
    // With a wall of 1 all warmth is lost as the quarter ends: it stays at 0.
    Due.is("a wall of one", x.stay(0, 0), Due.NONE);
    SledgeStove y = Due.village("draughty warm 0 wall 2 logs 99 bound 1", "out 0");
    Due.is("a draught", y.stay(0, 0), Due.NONE);
    SledgeStove z = Due.village("house warm 0 wall 10 logs 99 bound 360", "out 0");
    int k = z.stay(0, 0);
    Due.is("a long stay", k, 40);
    Due.is("then it is so", z.ahead(k, 4), 360);
    z.change(0, 3, k);
    Due.is("as many logs", z.stay(0, 0), k);
    z.change(0, 3, k - 1);
    Due.is("one log less", z.stay(0, 0), Due.NONE);
  }

  /** The smithy gets warmer by the quarter up to the 49th, in which its logs run out. */
  private static void longest() {
    SledgeStove x = Due.village("house;smithy warm 32 wall 15 logs 99 bound 372", "steep 0 8;out 92");
    Due.is("48 quarters", x.stay(1, 0), 48);
    SledgeStove y = Due.village("house;smithy warm 40 wall 16 logs 99 bound 360", "steep 0 0;out 60");
    Due.is("49 would do", y.stay(1, 0), Due.NONE);
    y.send(1);
    y.quarters(48);
    Due.is("behind 48", y.of(1, 1), 359);
    y.quarters(1);
    Due.is("behind 49", y.of(1, 1), 360);
  }

  private static void logs() {
    Due.promise("18 logs");
    SledgeStove x = Due.village("house warm 60 logs 0;house;house", "out 0");
    Due.is("one", x.logs(0, 1), 1);
    Due.is("away, none", x.logs(1, 1), 0);
    Due.is("away, never", x.logs(1, 50), Due.NONE);
    x.change(0, 4, 0);
    Due.is("no bound", x.logs(0, 96), 0);
    x.change(0, 0, 4);
    x.change(0, 4, 400);
    Due.is("empty", x.logs(0, 96), 0);
    x.change(0, 0, 6);
    x.change(0, 4, 60);
    Due.is("a smithy", x.logs(0, 1), 2);
    Due.is("nothing changes", x.of(0, 3), 0);
    SledgeStove y = Due.village("smithy warm 200 wall 4 bound 250", "out 0");
    Due.is("a proud one gets no warmer", y.logs(0, 96), Due.NONE);
    SledgeStove all = Due.village("house warm 362 wall 10 bound 362");
    Due.is("96 of them", all.logs(0, 96), 96);
    lateOnes(Due.village("house bound 0"));
  }

  /** What looks n quarters ahead says STATE where the last quarter would be passed. */
  private static void lateOnes(SledgeStove y) {
    Due.pass(y, 9998);
    Due.is("logs", y.logs(0, 1), 0);
    Due.is("logs 2", y.logs(0, 2), Due.STATE);
    Due.is("logs 97", y.logs(0, 97), Due.BEYOND);
    Due.is("logs of 1", y.logs(1, 2), Due.BEYOND);
    Due.is("wall", y.wall(0, 1), 1);
    Due.is("wall 2", y.wall(0, 2), Due.STATE);
    Due.is("wall 97", y.wall(0, 97), Due.BEYOND);
    Due.is("straw", y.straw(1), 0);
    Due.is("straw 2", y.straw(2), Due.STATE);
    Due.is("straw 97", y.straw(97), Due.BEYOND);
    Due.is("kindFor", y.kindFor(0, 1), 4);
    Due.is("kindFor 2", y.kindFor(0, 2), Due.STATE);
    Due.is("kindFor 97", y.kindFor(0, 97), Due.BEYOND);
  }

  private static void wall() {
    Due.promise("19 wall");
    SledgeStove x = Due.village("empty;house warm 100 bound 98;house warm 100 bound 99;house warm 20 bound 20");
    Due.is("the thinnest for 97 or more", x.wall(1, 1), 27);
    Due.is("none so thick", x.wall(2, 2), Due.NONE);
    Due.is("never", x.wall(2, 96), Due.NONE);
    Due.is("as out", x.wall(3, 96), 1);
    Due.is("empty", x.wall(0, 96), 1);
    x.change(2, 4, 98);
    Due.is("the thickest but some", x.wall(2, 1), 27);
    SledgeStove y = Due.village("house;house warm 60 bound 59", "out 20");
    Due.is("the last that does", y.wall(1, 1), 21);
    y.change(1, 1, 99);
    y.change(1, 4, 98);
    Due.is("40", y.wall(1, 1), 40);
    y.change(1, 1, 100);
    y.change(1, 4, 99);
    Due.is("beyond 40", y.wall(1, 1), Due.NONE);
    Due.is("nothing changes", y.of(1, 2), 10);
    y.send(1);
    Due.is("on its way it may be asked", y.wall(0, 1), 2);
  }

  private static void straw() {
    Due.promise("20 straw");
    SledgeStove x = Due.village("empty;house warm 90;house warm 80;house warm 95");
    Due.is("the coldest", x.straw(4), 2);
    Due.is("all alike", Due.village("house;house").straw(96), 0);
    Due.is("none needs", Due.village("empty;empty").straw(3), 0);
    SledgeStove y = Due.village("house warm 400;house warm 100 wall 40;house warm 110 wall 1");
    Due.is("40 at most", y.straw(1), 2);
    SledgeStove z = Due.village("empty;house warm 103 wall 38");
    Due.is("no more than 40", z.straw(1), 0);
    z.change(1, 1, 98);
    Due.is("just 40", z.straw(1), 1);
    SledgeStove five = Due.village("empty;house warm 35 wall 30", "out 0");
    Due.is("5 more do nothing", five.straw(1), 0);
    five.change(1, 1, 34);
    Due.is("5 more do something", five.straw(1), 1);
    Due.is("nothing changes", y.of(2, 2), 1);
    Due.is("without houses", new SledgeStove().straw(1), Due.STATE);
    Due.is("without houses, wrong", new SledgeStove().straw(0), Due.BEYOND);
    y.send(2);
    Due.is("on its way it may be asked", y.straw(1), 2);
  }

  private static void kindFor() {
    Due.promise("21 kindFor");
    SledgeStove x = Due.village("house;house;house warm 20");
    Due.is("away", x.kindFor(2, 1), 0);
    Due.is("away and warm", x.kindFor(1, 1), 3);
    x.change(1, 1, 20);
    Due.is("by the stove", x.kindFor(1, 1), 3);
    Due.is("at the stove", x.kindFor(0, 1), 6);
    x.change(0, 3, 0);
    x.change(0, 1, 60);
    Due.is("without logs", x.kindFor(0, 1), 4);
    x.change(0, 3, 1);
    x.change(0, 1, 20);
    Due.is("one log", x.kindFor(0, 1), 0);
    Due.is("nothing changes", x.of(0, 0), 0);
    x.send(1);
    Due.is("on its way it may be asked", x.kindFor(2, 1), 0);
  }
}
