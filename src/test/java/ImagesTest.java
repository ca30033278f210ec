/** Promises 43 to 47: images, counts, findings. */
public final class ImagesTest {
  public static void main(String[] args) {
    image();
    undo();
    tear();
    count();
    status();
    Due.end();
  }

  private static void image() {
    Due.promise("43 image, 44 undo");
    SledgeStove x = Due.village("house;smithy warm 200;deep", "steep 0 3;out 30");
    x.seed(5);
    x.hold(2, 1);
    x.send(1);
    x.quarters(4);
    x.send(0);
    x.sheet(0, 8, 1);
    Due.is("image", x.image(), 1);
    String was = all(x);
    x.text();
    Due.tape(x, "house");
    x.sheet(0, 16, 2);
    x.write(0, 0, 9);
    x.house(3);
    x.change(1, 0, 4);
    x.change(1, 1, 7);
    x.change(1, 2, 7);
    x.change(1, 3, 7);
    x.change(1, 4, 7);
    x.steep(0, 9);
    x.weather(0, 1);
    x.weather(1, 99);
    x.hold(2, -1);
    x.hold(5, 3);
    x.seed(6);
    x.quarters(50);
    x.send(2);
    Due.is("undo", x.undo(), 4);
    Due.is("all as it was", all(x).equals(was) ? 1 : 0, 1);
    Due.is("but the tape", x.count(5), 5);
    Due.is("and sheets", x.load(0), 2);
    Due.is("a new house is as at first", x.of(x.house(0), 1), 100);
  }

  /** All that an image keeps, as far as acts that change nothing tell it; steeps are put back. */
  private static String all(SledgeStove x) {
    StringBuilder all = new StringBuilder();
    for (int what = 0; what <= 6; what++) {
      all.append(x.now(what)).append(' ');
    }
    for (int i = 0; i < x.count(1); i++) {
      for (int what = 0; what <= 8; what++) {
        all.append(x.of(i, what)).append(' ');
      }
    }
    for (int i = 0; i <= 6; i++) {
      int steep = x.steep(i, 0);
      x.steep(i, steep);
      all.append(steep).append(' ');
    }
    for (int spot = 0; spot <= 9; spot++) {
      all.append(x.as(spot, 0)).append(' ');
    }
    return all.append(x.count(6)).append(' ').append(x.count(7)).toString();
  }

  private static void undo() {
    Due.promise("44 undo");
    SledgeStove x = Due.village("house");
    Due.is("nothing kept", x.undo(), Due.NONE);
    x.image();
    x.quarters(3);
    Due.is("undo", x.undo(), 0);
    Due.is("it went back", x.now(0), 0);
    x.quarters(2);
    Due.is("it stays", x.undo(), 0);
    x.quarters(5);
    x.image();
    x.quarters(1);
    Due.is("the latest", x.undo(), 5);
    Due.is("bread and burnt", x.now(4), 5);
    SledgeStove y = new SledgeStove();
    y.image();
    y.house(0);
    y.undo();
    Due.is("no house", y.of(0, 0), Due.BEYOND);
    Due.is("house 0 anew", y.house(2), 0);
    Due.is("of its kind", y.of(0, 0), 2);
  }

  private static void tear() {
    Due.promise("45 tear");
    SledgeStove x = Due.village("house");
    Due.is("nothing", x.tear(), 0);
    x.image();
    x.image();
    Due.is("something", x.tear(), 1);
    Due.is("nothing more", x.tear(), 0);
    Due.is("no undo", x.undo(), Due.NONE);
    Due.is("it is as it was", x.count(1), 1);
    Due.is("again", x.image(), 1);
    Due.is("undo", x.undo(), 0);
    Due.is("undo tears nothing", x.tear(), 1);
  }

  private static void count() {
    Due.promise("46 count");
    SledgeStove x = Due.village("house warm 300 wall 40 logs 5;smithy warm 7 logs 90;empty logs 3");
    x.quarters(2);
    x.hold(0, 0);
    x.hold(1, 0);
    x.hold(9, 2);
    Due.tape(x, "abc");
    int warmth = x.of(0, 1) + x.of(1, 1) + x.of(2, 1);
    int[] told = {2, 3, 96, 2, warmth, 3, 1, 3};
    for (int what = 0; what <= 7; what++) {
      Due.is("count " + what, x.count(what), told[what]);
    }
    for (int what : new int[] {-1, 8, Integer.MAX_VALUE, Integer.MIN_VALUE}) {
      Due.is("count " + what, x.count(what), Due.BEYOND);
    }
    x.seed(Due.STATE);
    int before = x.status(-1);
    Due.is("z as a finding", x.count(6), Due.STATE);
    Due.is("is none", x.status(-1), before);
  }

  private static void status() {
    Due.promise("47 status");
    SledgeStove x = new SledgeStove();
    x.image();
    x.house(7);
    x.best(1);
    x.best(1);
    x.middle();
    x.load(0);
    x.load(0);
    x.load(0);
    x.sheet(0, 0, -1);
    x.feed(0, 5);
    for (int i = 0; i < 9; i++) {
      x.house(2);
    }
    x.hold(0, 0);
    for (int i = 0; i < 4; i++) {
      x.as(0, 1);
    }
    Due.is("text with a fault", x.text(), -1);
    int[] told = {2, 1, 4, 1, 2, 3, 1};
    check(x, told, 14);
    x.undo();
    check(x, told, 14);
    Due.is("status 7", x.status(7), Due.BEYOND);
    Due.is("counted", x.status(0), 3);
    Due.is("status -2", x.status(-2), Due.BEYOND);
    Due.is("counted", x.status(0), 4);
    Due.is("in all", x.status(-1), 16);
    Due.is("status far", x.status(Integer.MAX_VALUE), Due.BEYOND);
    Due.is("status far back", x.status(Integer.MIN_VALUE), Due.BEYOND);
    Due.is("in all", x.status(-1), 18);
    x.tear();
    Due.is("by undo", x.undo(), Due.NONE);
    Due.is("NONE", x.status(3), 2);
  }

  private static void check(SledgeStove x, int[] told, int all) {
    for (int which = 0; which <= 6; which++) {
      Due.is("status " + which, x.status(which), told[which]);
    }
    Due.is("status of all", x.status(-1), all);
  }
}
