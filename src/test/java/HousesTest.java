/** Promises 1 to 8: a new object, houses and ways. */
public final class HousesTest {
  private static final int[] ODD = {-1, 7, 8, 9, 100, Integer.MAX_VALUE, Integer.MIN_VALUE};

  public static void main(String[] args) {
    newObject();
    house();
    of();
    heats();
    loses();
    change();
    steep();
    weather();
    lend();
    way();
    Due.end();
  }

  private static void newObject() {
    Due.promise("1 a new object");
    SledgeStove x = new SledgeStove();
    for (int what = 0; what <= 7; what++) {
      Due.is("count " + what, x.count(what), what == 6 ? 1 : 0);
    }
    for (int what = 0; what <= 6; what++) {
      Due.is("now " + what, x.now(what), what == 6 ? 20 : 0);
    }
    for (int i = 0; i <= 6; i++) {
      Due.is("steep " + i, x.steep(i, 1), 1);
    }
    for (int which = -1; which <= 6; which++) {
      Due.is("status " + which, x.status(which), 0);
    }
    for (int s = 0; s <= 3; s++) {
      Due.is("load " + s, x.load(s), Due.MISSING);
    }
    for (int spot = 0; spot <= 9; spot++) {
      Due.is("as " + spot, x.as(spot, 0), Due.MISSING);
    }
    Due.is("undo", x.undo(), Due.NONE);
    Due.is("tear", x.tear(), 0);
    Due.is("wipe", x.wipe(), 0);
    Due.is("house", x.house(0), 0);
    Due.is("warmth", x.of(0, 1), 100);
    Due.is("send to where it stands", x.send(0), 0);
  }

  private static void house() {
    Due.promise("2 house");
    SledgeStove x = new SledgeStove();
    for (int kind : ODD) {
      Due.is("house " + kind, x.house(kind), Due.BEYOND);
    }
    Due.is("none came", x.count(1), 0);
    for (int i = 0; i < 8; i++) {
      Due.is("house", x.house(i % 7), i);
      int[] first = {i % 7, 100, 10, 8, 60, 0};
      for (int what = 0; what < first.length; what++) {
        Due.is("of " + i + " " + what, x.of(i, what), first[what]);
      }
    }
    Due.is("a ninth", x.house(0), Due.FULL);
    Due.is("a ninth of no kind", x.house(7), Due.BEYOND);
    Due.is("still eight", x.count(1), 8);
  }

  private static void of() {
    Due.promise("3 of");
    SledgeStove x = Due.village("smithy warm 199 wall 7 logs 3 bound 11;joined");
    int[] told = {6, 199, 7, 3, 11, 0, 60, 25, 2};
    for (int what = 0; what < told.length; what++) {
      Due.is("of 0 " + what, x.of(0, what), told[what]);
    }
    x.quarters(1);
    Due.is("bread", x.of(0, 5), 1);
    Due.is("bread of the other", x.of(1, 5), 0);
    for (int what : new int[] {-1, 9, Integer.MAX_VALUE, Integer.MIN_VALUE}) {
      Due.is("of 0 " + what, x.of(0, what), Due.BEYOND);
    }
    for (int house : new int[] {-1, 2, 8, Integer.MAX_VALUE, Integer.MIN_VALUE}) {
      Due.is("of " + house, x.of(house, 0), Due.BEYOND);
    }
    Due.is("burns of each kind", burnsOfAll(), 1111012);
  }

  private static int burnsOfAll() {
    SledgeStove x = new SledgeStove();
    int all = 0;
    for (int kind = 0; kind <= 6; kind++) {
      all = 10 * all + x.of(x.house(kind), 8);
    }
    return all;
  }

  private static void heats() {
    Due.promise("3 of: heats");
    int[] below = {40, 40, 40, 30, 40, 40, 60};
    int[] proud = {40, 40, 40, 30, 40, 0, 20};
    SledgeStove x = new SledgeStove();
    for (int kind = 0; kind <= 6; kind++) {
      x.house(kind);
      x.change(kind, 1, 199);
      Due.is("heats of " + kind + " at 199", x.of(kind, 6), below[kind]);
      x.change(kind, 1, 200);
      Due.is("heats of " + kind + " at 200", x.of(kind, 6), proud[kind]);
      x.change(kind, 1, 400);
      Due.is("heats of " + kind + " at 400", x.of(kind, 6), proud[kind]);
    }
  }

  private static void loses() {
    Due.promise("3 of: loses");
    int[] ordinary = {9, 9, 18, 4, 18, 9, 9};
    int[] thin = {380, 380, 760, 190, 760, 380, 380};
    SledgeStove x = new SledgeStove();
    for (int kind = 0; kind <= 6; kind++) {
      x.house(kind);
      x.change(kind, 1, 119);
      Due.is("loses of " + kind, x.of(kind, 7), ordinary[kind]);
      x.change(kind, 1, 400);
      x.change(kind, 2, 1);
      Due.is("loses of " + kind + ", thin", x.of(kind, 7), thin[kind]);
      x.change(kind, 1, 20);
      Due.is("loses of " + kind + ", as out", x.of(kind, 7), 0);
      x.change(kind, 1, 0);
      Due.is("loses of " + kind + ", below out", x.of(kind, 7), 0);
    }
    x.change(0, 1, 100);
    x.weather(1, 63);
    Due.is("loses by out", x.of(0, 7), 37);
  }

  private static void change() {
    Due.promise("4 change");
    int[] lowest = {0, 0, 1, 0, 0};
    int[] highest = {6, 400, 40, 99, 400};
    int[] atFirst = {5, 100, 10, 8, 60};
    SledgeStove x = new SledgeStove();
    x.house(0);
    x.house(5);
    for (int what = 0; what <= 4; what++) {
      Due.is("too little " + what, x.change(1, what, lowest[what] - 1), Due.BEYOND);
      Due.is("too much " + what, x.change(1, what, highest[what] + 1), Due.BEYOND);
      Due.is("least of ints " + what, x.change(1, what, Integer.MIN_VALUE), Due.BEYOND);
      Due.is("most of ints " + what, x.change(1, what, Integer.MAX_VALUE), Due.BEYOND);
      Due.is("lowest " + what, x.change(1, what, lowest[what]), atFirst[what]);
      Due.is("highest " + what, x.change(1, what, highest[what]), lowest[what]);
      Due.is("stands " + what, x.of(1, what), highest[what]);
    }
    for (int what : new int[] {-1, 5, 6, Integer.MAX_VALUE, Integer.MIN_VALUE}) {
      Due.is("change of " + what, x.change(1, what, 1), Due.BEYOND);
    }
    for (int house : new int[] {-1, 2, 8, Integer.MAX_VALUE}) {
      Due.is("change in " + house, x.change(house, 1, 1), Due.BEYOND);
    }
    for (int what = 1; what <= 4; what++) {
      Due.is("the other house " + what, x.of(0, what), atFirst[what]);
    }
    Due.is("bread stays", x.of(1, 5), 0);
  }

  private static void steep() {
    Due.promise("5 steep");
    SledgeStove x = new SledgeStove();
    for (int i = 0; i <= 6; i++) {
      Due.is("steep " + i, x.steep(i, i + 3), 1);
      Due.is("steep again " + i, x.steep(i, 0), i + 3);
      Due.is("steep below " + i, x.steep(i, -1), Due.BEYOND);
      Due.is("steep above " + i, x.steep(i, 10), Due.BEYOND);
      Due.is("steep stays " + i, x.steep(i, 1), 0);
    }
    for (int i : ODD) {
      Due.is("steep of " + i, x.steep(i, 1), Due.BEYOND);
    }
  }

  private static void weather() {
    Due.promise("6 weather");
    SledgeStove x = new SledgeStove();
    Due.is("ice", x.weather(0, 1), 0);
    Due.is("thaw", x.weather(0, 0), 1);
    Due.is("ice 2", x.weather(0, 2), Due.BEYOND);
    Due.is("ice -1", x.weather(0, -1), Due.BEYOND);
    Due.is("out", x.weather(1, 100), 20);
    Due.is("out 0", x.weather(1, 0), 100);
    Due.is("out 101", x.weather(1, 101), Due.BEYOND);
    Due.is("out -1", x.weather(1, -1), Due.BEYOND);
    Due.is("what 2", x.weather(2, 0), Due.BEYOND);
    Due.is("what -1", x.weather(-1, 0), Due.BEYOND);
    Due.is("out stays", x.now(6), 0);
    Due.is("ice stays", x.now(5), 0);
  }

  private static void lend() {
    Due.promise("7 lend");
    SledgeStove x = Due.village("house logs 50;house logs 49;house logs 0");
    Due.is("lend 1", x.lend(0, 1, 1), 50);
    Due.is("giver", x.of(0, 3), 49);
    Due.is("lend 49", x.lend(1, 0, 49), 98);
    Due.is("up to 99", x.lend(1, 0, 1), 99);
    Due.is("nothing left", x.of(1, 3), 0);
    Due.is("no more", x.lend(1, 2, 1), Due.STATE);
    Due.is("all", x.lend(0, 2, 99), 99);
    x.change(0, 3, 1);
    Due.is("above 99", x.lend(0, 2, 1), Due.STATE);
    Due.is("not so many", x.lend(0, 1, 2), Due.STATE);
    Due.is("one and the same", x.lend(2, 2, 1), Due.BEYOND);
    Due.is("0 logs", x.lend(2, 0, 0), Due.BEYOND);
    Due.is("100 logs", x.lend(2, 0, 100), Due.BEYOND);
    Due.is("-1 logs", x.lend(2, 0, -1), Due.BEYOND);
    Due.is("from -1", x.lend(-1, 0, 1), Due.BEYOND);
    Due.is("from 3", x.lend(3, 0, 1), Due.BEYOND);
    Due.is("to 3", x.lend(0, 3, 1), Due.BEYOND);
    Due.is("to -1", x.lend(0, -1, 1), Due.BEYOND);
    Due.is("none is lost", x.count(2), 100);
  }

  private static void way() {
    Due.promise("8 way");
    SledgeStove x = Due.village("house;house;house;house", "steep 0 2;steep 1 0;steep 2 9;steep 3 7");
    Due.is("to itself", x.way(2, 2), 0);
    Due.is("on", x.way(0, 1), 2);
    Due.is("on and on", x.way(0, 3), 11);
    Due.is("back", x.way(3, 1), 9);
    Due.is("flat", x.way(1, 2), 0);
    x.weather(0, 1);
    Due.is("to itself on ice", x.way(2, 2), 0);
    Due.is("flat on ice", x.way(2, 1), 1);
    Due.is("far on ice", x.way(3, 0), 14);
    for (int house : new int[] {-1, 4, 8, Integer.MAX_VALUE, Integer.MIN_VALUE}) {
      Due.is("from " + house, x.way(house, 0), Due.BEYOND);
      Due.is("to " + house, x.way(0, house), Due.BEYOND);
    }
    x.send(3);
    Due.is("while it goes", x.way(0, 1), 3);
    Due.is("nothing moved", x.now(1), 3);
  }
}
