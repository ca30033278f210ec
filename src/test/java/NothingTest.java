/** Promises 1 to 47 where there is nothing: no HOUSES, an empty TAPE, no sheet or one without numbers, no image. */
public final class NothingTest {
  public static void main(String[] args) {
    noHouses();
    noHousesAhead();
    noHousesToGoTo();
    nothingIsHeated();
    emptyTape();
    missingSheets();
    noNumbers();
    noImage();
    nothingHeld();
    nothingToAsk();
    Due.end();
  }

  private static void noHouses() {
    Due.promise("2 to 11, without houses");
    SledgeStove x = new SledgeStove();
    for (int house : new int[] {-1, 0, 1, 7, 8}) {
      Due.is("of " + house, x.of(house, 1), Due.BEYOND);
      Due.is("change " + house, x.change(house, 1, 0), Due.BEYOND);
      Due.is("lend from " + house, x.lend(house, 0, 1), Due.BEYOND);
      Due.is("way to " + house, x.way(0, house), Due.BEYOND);
      Due.is("send to " + house, x.send(house), Due.BEYOND);
    }
    Due.is("a way without a house", x.steep(0, 9), 1);
    Due.is("ice without a house", x.weather(0, 1), 0);
    Due.is("quarters", x.quarters(1), 0);
    int[] now = {1, 0, 0, 0, 0, 1, 20};
    for (int what = 0; what < now.length; what++) {
      Due.is("now " + what, x.now(what), now[what]);
    }
    Due.is("findings", x.status(-1), 25);
  }

  private static void noHousesAhead() {
    Due.promise("12 to 21, without houses");
    SledgeStove x = new SledgeStove();
    for (int n = 0; n <= 96; n += 96) {
      int[] due = {0, 400, 0, 0};
      for (int what = 0; what < due.length; what++) {
        Due.is("ahead " + n + " " + what, x.ahead(n, what), due[what]);
      }
      Due.is("ahead " + n + " 4", x.ahead(n, 4), Due.BEYOND);
    }
    Due.is("cold", x.cold(0), Due.BEYOND);
    Due.is("bake", x.bake(0), Due.BEYOND);
    Due.is("best", x.best(1), Due.STATE);
    Due.is("lost", x.lost(1), Due.STATE);
    Due.is("stay", x.stay(0, 0), Due.BEYOND);
    Due.is("logs", x.logs(0, 1), Due.BEYOND);
    Due.is("wall", x.wall(0, 1), Due.BEYOND);
    Due.is("straw", x.straw(1), Due.STATE);
    Due.is("kindFor", x.kindFor(0, 1), Due.BEYOND);
  }

  private static void noHousesToGoTo() {
    Due.promise("22 to 29, without houses");
    SledgeStove x = new SledgeStove();
    Due.is("round", x.round(1), Due.STATE);
    Due.is("takes", x.takes(1), Due.STATE);
    Due.is("three", x.three(1), Due.STATE);
    Due.is("least", x.least(1), Due.STATE);
    Due.is("pace", x.pace(), Due.STATE);
    Due.is("thrift", x.thrift(1), Due.STATE);
    Due.is("middle", x.middle(), Due.NONE);
    Due.is("calls", x.calls(1), Due.STATE);
    Due.is("no draw", x.count(6), 1);
    Due.is("no quarter", x.count(0), 0);
  }

  private static void nothingIsHeated() {
    Due.promise("10 quarters, without houses");
    SledgeStove x = new SledgeStove();
    Due.is("96 of them", x.quarters(96), 0);
    Due.is("nothing burnt", x.now(4), 0);
    Due.is("where it stands", x.now(1), 0);
    x.house(0);
    Due.is("as at first", x.of(0, 1), 100);
    Due.is("as many logs", x.of(0, 3), 8);
    Due.is("it heats at once", x.ahead(1, 4), 128);
    Due.is("no way", x.send(0), 0);
  }

  private static void emptyTape() {
    Due.promise("31 to 33, an empty tape");
    SledgeStove x = new SledgeStove();
    Due.is("wipe", x.wipe(), 0);
    Due.is("text", x.text(), -1);
    Due.is("text again", x.text(), -1);
    Due.is("bytes", x.count(5), 0);
    x.feed(0, 4);
    Due.is("four", x.wipe(), 4);
    Due.is("a text behind a wipe", x.text(), -1);
    Due.is("no finding", x.status(-1), 0);
    SledgeStove y = Due.village("house");
    Due.is("read, then empty", y.text(), -1);
    Due.is("one house", y.count(1), 1);
  }

  private static void missingSheets() {
    Due.promise("36 to 42, missing sheets");
    SledgeStove x = Due.village("house;house");
    for (int s = 0; s <= 3; s++) {
      Due.is("write", x.write(s, 0, 0), Due.MISSING);
      Due.is("copy", x.copy(s, 0, s, 0, 0), Due.MISSING);
      Due.is("load", x.load(s), Due.MISSING);
      Due.is("rounds", x.rounds(s, 1), Due.MISSING);
      Due.is("diary", x.diary(s, 1), Due.MISSING);
      Due.is("judge", x.judge(s, 0), Due.MISSING);
      Due.is("made missing with 0", x.sheet(s, 0, 0), 0);
      Due.is("made missing with 40", x.sheet(s, 0, 40), 0);
      Due.is("missing yet", x.load(s), Due.MISSING);
    }
    Due.is("findings", x.status(5), 28);
    Due.is("no others", x.status(-1), 28);
  }

  private static void noNumbers() {
    Due.promise("36 to 42, sheets without numbers");
    SledgeStove x = Due.village("house;house");
    Due.is("sheet", x.sheet(0, 8, 0), 0);
    Due.is("another", x.sheet(1, 8, 0), 0);
    Due.is("write 0", x.write(0, 0, 0), Due.BEYOND);
    Due.is("write -1", x.write(0, -1, 0), Due.BEYOND);
    Due.is("copy none", x.copy(0, 0, 1, 0, 0), 0);
    Due.is("copy none to itself", x.copy(0, 0, 0, 0, 0), 0);
    Due.is("copy one", x.copy(0, 0, 1, 0, 1), Due.BEYOND);
    Due.is("copy none from 1", x.copy(0, 1, 1, 0, 0), Due.BEYOND);
    Due.is("copy none to 1", x.copy(0, 0, 1, 1, 0), Due.BEYOND);
    Due.is("load", x.load(0), 0);
    Due.is("logs stay", x.count(2), 16);
    Due.is("rounds", x.rounds(0, 12), 400);
    Due.is("diary: all", x.diary(0, 1), 8);
    Due.is("judge", x.judge(0, 1), 0);
    Due.is("judge, no house", x.judge(0, 2), Due.BEYOND);
    Due.pass(x, 9999);
    Due.is("judge at the end", x.judge(0, 1), 0);
  }

  private static void noImage() {
    Due.promise("43 to 45, no image");
    SledgeStove x = Due.village("house");
    Due.is("undo", x.undo(), Due.NONE);
    Due.is("the house stays", x.count(1), 1);
    Due.is("tear", x.tear(), 0);
    Due.is("image", x.image(), 1);
    Due.is("tear it", x.tear(), 1);
    Due.is("undo", x.undo(), Due.NONE);
    SledgeStove y = new SledgeStove();
    Due.is("an image of nothing", y.image(), 1);
    y.house(6);
    y.quarters(5);
    Due.is("undo", y.undo(), 0);
    for (int what = 0; what <= 7; what++) {
      Due.is("count " + what, y.count(what), what == 6 ? 1 : 0);
    }
    Due.is("tear", y.tear(), 1);
  }

  private static void nothingHeld() {
    Due.promise("34 and 35, nothing held");
    SledgeStove x = new SledgeStove();
    Due.is("no house 0", x.hold(0, 0), Due.BEYOND);
    Due.is("nothing", x.hold(0, -1), 1);
    Due.is("none", x.count(7), 0);
    Due.is("as", x.as(0, 0), Due.MISSING);
    Due.is("as the last kind", x.as(9, 6), Due.MISSING);
  }

  private static void nothingToAsk() {
    Due.promise("46 and 47, nothing");
    SledgeStove x = new SledgeStove();
    for (int what = 0; what <= 7; what++) {
      Due.is("count " + what, x.count(what), what == 6 ? 1 : 0);
    }
    for (int which = -1; which <= 6; which++) {
      Due.is("status " + which, x.status(which), 0);
    }
    Due.is("seed", x.seed(0), 1);
    Due.is("z", x.count(6), 0);
  }
}
