/** Promises 2 to 47 where there is all that can be: 8 HOUSES, 120 bytes, 40 numbers, 10 SPOTS, QUARTER 9999. */
public final class FullTest {
  public static void main(String[] args) {
    eightHouses();
    mostOfAll();
    farthestWay();
    longestRounds();
    latestRounds();
    latestCalls();
    fullTape();
    fullTexts();
    fullSheets();
    fullLoad();
    mostRounds();
    fullJudge();
    tenSpots();
    lastQuarter();
    lastQuarterAhead();
    lastQuarterBack();
    mostBread();
    Due.end();
  }

  private static SledgeStove eight(int kind) {
    SledgeStove x = new SledgeStove();
    for (int i = 0; i < 8; i++) {
      x.house(kind);
    }
    return x;
  }

  private static void far(SledgeStove x) {
    for (int i = 0; i <= 6; i++) {
      x.steep(i, 9);
    }
    x.weather(0, 1);
  }

  private static void eightHouses() {
    Due.promise("2 house: eight");
    SledgeStove x = eight(1);
    Due.is("a ninth", x.house(0), Due.FULL);
    Due.is("a ninth by text", Due.text(x, "thaw;house"), -1 - 5);
    Due.is("eight", x.count(1), 8);
    Due.is("the eighth", x.of(7, 0), 1);
    Due.is("no house 8", x.of(8, 0), Due.BEYOND);
    Due.is("its warmth ahead", x.ahead(1, 11), 92);
    Due.is("no house 8 ahead", x.ahead(1, 12), Due.BEYOND);
    Due.is("all are cold", coldOf(x), 255);
    Due.is("all are lost but one at a time", x.lost(1), 255);
    x.send(7);
    x.quarters(9);
    Due.is("the sixth gets", x.of(6, 1) > x.of(5, 1) ? 1 : 0, 1);
    Due.is("the first doesn't", x.of(0, 1), x.of(5, 1));
  }

  private static int coldOf(SledgeStove x) {
    for (int i = 0; i < 8; i++) {
      x.change(i, 4, 400);
    }
    return x.now(3);
  }

  private static void mostOfAll() {
    Due.promise("46 count: most of all");
    SledgeStove x = eight(6);
    for (int i = 0; i < 8; i++) {
      x.change(i, 1, 400);
      x.change(i, 2, 40);
      x.change(i, 3, 99);
      x.change(i, 4, 400);
      x.hold(i, i);
    }
    x.hold(8, 0);
    x.hold(9, 7);
    Due.tape(x, "                                                            ");
    Due.tape(x, "                                                            ");
    x.seed(-1);
    int[] due = {0, 8, 792, 0, 3200, 120, -1, 10};
    for (int what = 0; what < due.length; what++) {
      Due.is("count " + what, x.count(what), due[what]);
    }
    Due.is("no room for a log", x.lend(0, 7, 1), Due.STATE);
    Due.is("none is cold", x.now(3), 0);
    Due.is("least", x.ahead(0, 1), 400);
    Due.is("one loaf", x.quarters(1), 1);
    Due.is("heated by 20, cut, less 9", x.of(0, 1), 391);
    Due.is("two logs", x.count(2), 790);
  }

  private static void farthestWay() {
    Due.promise("8 way, 9 send: the farthest");
    SledgeStove x = eight(0);
    Due.is("as at first", x.way(0, 7), 7);
    far(x);
    Due.is("on", x.way(0, 7), 70);
    Due.is("back", x.way(7, 0), 70);
    Due.is("send", x.send(7), 70);
    Due.is("goes yet", x.now(2), 70);
    x.quarters(69);
    Due.is("one quarter yet", x.now(2), 1);
    Due.is("on its way", x.send(7), Due.STATE);
    Due.is("nothing burnt", x.now(4), 0);
    x.quarters(1);
    Due.is("it stands there", x.now(2), 0);
    Due.is("nothing burnt yet", x.now(4), 0);
    x.quarters(1);
    Due.is("one log", x.now(4), 1);
    Due.is("and back", x.send(0), 70);
  }

  private static void longestRounds() {
    Due.promise("23 takes: the longest");
    SledgeStove x = eight(4);
    Due.is("as at first", x.takes(1), 15);
    far(x);
    Due.is("from the first", x.takes(12), 70 + 96);
    x.send(7);
    x.quarters(70);
    Due.is("from the last", x.takes(12), 70 + 70 + 96);
    Due.is("shortest stay", x.takes(1), 70 + 70 + 8);
    Due.is("all empty", x.round(12), 400);
    Due.is("three", x.three(12), 0);
    Due.is("middle", x.middle(), 3);
  }

  private static void latestRounds() {
    Due.promise("22 to 27: the latest and longest");
    SledgeStove x = new SledgeStove();
    Due.pass(x, 9630);
    for (int i = 0; i < 8; i++) {
      x.house(0);
      x.change(i, 4, 0);
    }
    far(x);
    x.send(7);
    x.quarters(70);
    Due.is("quarter", x.now(0), 9700);
    Due.is("takes", x.takes(12), 236);
    Due.is("round", x.round(12), 20 + 9);
    Due.is("stands there already", x.three(12), 0);
    Due.is("least", x.least(12), 29);
    Due.is("pace", x.pace(), 1);
    Due.is("thrift: those without logs soon", x.thrift(12), 0);
    x.sheet(0, 8, 8);
    Due.is("diary: none bakes", x.diary(0, 1), 512);
    x.write(0, 7, 1);
    Due.is("diary: a loaf", x.diary(0, 1), 0);
    Due.is("stay", x.stay(0, 40), 0);
    Due.is("nothing changes", x.now(0), 9700);
  }

  private static void latestCalls() {
    Due.promise("29 calls: the latest and longest");
    SledgeStove x = new SledgeStove();
    Due.pass(x, 8500);
    for (int i = 0; i < 8; i++) {
      x.house(0);
      x.change(i, 1, 20);
    }
    far(x);
    int z = 1;
    int at = 0;
    int due = 8500;
    for (int i = 0; i < 12; i++) {
      z = z * 1103515245 + 12345;
      int to = (z >>> 8) % 8;
      due += 10 * Math.abs(to - at) + 2;
      at = to;
    }
    Due.is("calls", x.calls(12) > 0 ? 1 : 0, 1);
    Due.is("quarter", x.now(0), due);
    Due.is("where", x.now(1), at);
    Due.is("it stands", x.now(2), 0);
    Due.is("logs", x.now(4), 24);
  }

  private static void fullTape() {
    Due.promise("31 feed: 120 bytes");
    for (int n = 1; n <= 4; n++) {
      SledgeStove x = new SledgeStove();
      for (int had = n; had <= 120; had += n) {
        Due.is("by " + n, x.feed(-1, n), had);
      }
      for (int more = 1; more <= 4; more++) {
        Due.is(more + " more", x.feed(0, more), Due.FULL);
      }
      Due.is("not so many", x.feed(0, 5), Due.BEYOND);
      Due.is("bytes", x.count(5), 120);
      Due.is("wipe", x.wipe(), 120);
      Due.is("room again", x.feed(0, n), n);
    }
    for (int room = 0; room <= 4; room++) {
      SledgeStove x = new SledgeStove();
      while (x.count(5) < 120 - room) {
        x.feed(' ', 1);
      }
      for (int n = 4; n > room; n--) {
        Due.is("room for " + room + ", " + n + " come", x.feed(0, n), Due.FULL);
      }
      Due.is("room for " + room, x.count(5), 120 - room);
      if (room > 0) {
        Due.is("just " + room, x.feed(0, room), 120);
      }
    }
  }

  private static void fullTexts() {
    Due.promise("33 text: 120 bytes");
    String two = "house warm 400 wall 40 logs 99 bound 400;deep warm 0 wall 1 logs 0 bound 0;out 100;steep 6 9;ice";
    SledgeStove x = new SledgeStove();
    String text = two + " ".repeat(120 - two.length());
    Due.is("bytes", Due.tape(x, text), 120);
    Due.is("five items", x.text(), 5);
    int[] first = {0, 400, 40, 99, 400, 0};
    int[] second = {3, 0, 1, 0, 0, 0};
    for (int what = 0; what <= 5; what++) {
      Due.is("first " + what, x.of(0, what), first[what]);
      Due.is("second " + what, x.of(1, what), second[what]);
    }
    tape("too early at 120", " ".repeat(119) + ";", -1 - 119);
    tape("blanks alone", " ".repeat(120), -1 - 120);
    Due.is("thaw", tape("a word at the end", "ice;" + " ".repeat(112) + "thaw", 2).now(5), 0);
    tape("half a word at the end", " ".repeat(117) + "out", -1 - 120);
    Due.is("out", tape("a number at the end", " ".repeat(115) + "out 7", 1).now(6), 7);
    Due.is("out", tape("a number of 116 digits", "out " + "0".repeat(115) + "8", 1).now(6), 8);
    tape("a large number of 116 digits", "out " + "9".repeat(116), -1 - 4);
    tape("a word of 120 letters", "ice".repeat(40), -1);
    tape("120 signs", ";".repeat(120), -1);
    Due.is("ice", tape("thirty items", "thaw" + ";ice".repeat(29), 30).now(5), 1);
    Due.is("no ice", tape("thirty items and a sign", "ice;".repeat(30), -1 - 120).now(5), 0);
  }

  /** A text of 120 bytes on a new object. */
  private static SledgeStove tape(String name, String text, int due) {
    SledgeStove x = new SledgeStove();
    Due.is("bytes", Due.tape(x, text), text.length());
    Due.is(name, x.text(), due);
    return x;
  }

  private static void fullSheets() {
    Due.promise("36 to 38: 40 numbers");
    SledgeStove x = eight(0);
    int[] bits = {8, 16, 32, 8};
    for (int s = 0; s <= 3; s++) {
      Due.is("sheet " + s, x.sheet(s, bits[s], 40), 40);
      Due.is("the last", x.write(s, 39, 7), 1);
      Due.is("the first", x.write(s, 0, 5), 1);
      Due.is("one behind", x.write(s, 40, 7), Due.BEYOND);
      Due.is("far behind", x.write(s, Integer.MAX_VALUE, 7), Due.BEYOND);
      Due.is("one before", x.write(s, -1, 7), Due.BEYOND);
      Due.is("all to itself", x.copy(s, 0, s, 0, 40), 40);
      Due.is("41 to itself", x.copy(s, 0, s, 0, 41), Due.BEYOND);
      Due.is("the last to the first", x.copy(s, 39, s, 0, 1), 1);
      Due.is("one from behind", x.copy(s, 40, s, 0, 1), Due.BEYOND);
      Due.is("one to behind", x.copy(s, 0, s, 40, 1), Due.BEYOND);
      Due.is("none to the end", x.copy(s, 0, s, 40, 0), 0);
      Due.is("none from the end", x.copy(s, 40, s, 0, 0), 0);
      Due.is("39 on by one", x.copy(s, 0, s, 1, 39), 39);
      Due.is("40 on by one", x.copy(s, 0, s, 1, 40), Due.BEYOND);
      Due.is("load", x.load(s), 8);
      Due.is("first", x.of(0, 3), 7);
      Due.is("second", x.of(1, 3), 7);
      Due.is("third", x.of(2, 3), 0);
    }
    Due.is("all to another", x.copy(0, 0, 3, 0, 40), 40);
    Due.is("other bits", x.copy(0, 0, 1, 0, 40), Due.KIND);
    Due.is("missing", x.sheet(3, 0, 40), 0);
    Due.is("to it", x.copy(0, 0, 3, 0, 40), Due.MISSING);
  }

  private static void fullLoad() {
    Due.promise("39 load: 40 numbers, 8 houses");
    SledgeStove x = eight(0);
    x.sheet(0, 8, 40);
    for (int i = 0; i < 40; i++) {
      x.write(0, i, i < 8 ? 99 - i : 100);
    }
    Due.is("eight", x.load(0), 8);
    for (int i = 0; i < 8; i++) {
      Due.is("logs of " + i, x.of(i, 3), 99 - i);
    }
    x.write(0, 7, 100);
    x.write(0, 0, 0);
    Due.is("seven", x.load(0), 7);
    Due.is("the last stays", x.of(7, 3), 92);
    Due.is("the first came", x.of(0, 3), 0);
  }

  private static void mostRounds() {
    Due.promise("40 rounds: 40 numbers");
    SledgeStove x = new SledgeStove();
    Due.pass(x, 4000);
    for (int i = 0; i < 8; i++) {
      x.house(i == 3 ? 0 : 4);
    }
    far(x);
    x.change(3, 1, 400);
    x.sheet(0, 16, 40);
    for (int i = 0; i < 40; i++) {
      x.write(0, i, i % 2 == 0 ? 7 : 0);
    }
    Due.is("to and fro", x.rounds(0, 12), 29);
    for (int i = 0; i < 40; i++) {
      x.write(0, i, 3);
    }
    x.change(3, 2, 40);
    x.change(3, 3, 99);
    // 380 by 40 is lost ever again on the way, then 40 come each quarter but are cut at 400.
    Due.is("30 quarters' way, then heat", x.rounds(0, 1), x.ahead(30, 7));
    x.write(0, 39, 8);
    Due.is("the last is no house", x.rounds(0, 1), Due.STATE);
    x.write(0, 39, -1);
    Due.is("the last is -1", x.rounds(0, 1), Due.STATE);
    x.write(0, 39, 7);
    Due.is("the last is the last house", x.rounds(0, 1) > Due.BEYOND ? 1 : 0, 1);
    Due.is("nothing changes", x.now(0), 4000);
  }

  private static void fullJudge() {
    Due.promise("42 judge: 40 numbers");
    SledgeStove x = Due.village("house;house warm 400 wall 40", "out 100");
    x.sheet(0, 16, 40);
    int warmth = 400;
    for (int i = 0; i < 40; i++) {
      warmth -= (warmth - 100) / 40;
      x.write(0, i, warmth);
    }
    Due.is("all are", x.judge(0, 1), 0);
    for (int i = 39; i >= 0; i--) {
      x.write(0, i, 401);
      Due.is("not number " + i, x.judge(0, 1), 1 + i);
    }
    SledgeStove late = Due.village("house warm 20");
    late.send(0);
    late.sheet(0, 8, 40);
    Due.pass(late, 9959);
    Due.is("9959", late.judge(0, 0), 1);
    late.quarters(1);
    Due.is("9960", late.judge(0, 0), Due.STATE);
    late.sheet(0, 8, 39);
    Due.is("9960, one less", late.judge(0, 0), 1);
  }

  private static void tenSpots() {
    Due.promise("34 hold, 35 as: ten spots, eight houses");
    SledgeStove x = eight(3);
    for (int spot = 0; spot <= 9; spot++) {
      Due.is("hold " + spot, x.hold(spot, spot % 8), 1);
      Due.is("held", x.count(7), spot + 1);
    }
    for (int spot = 0; spot <= 9; spot++) {
      Due.is("as deep", x.as(spot, 3), spot % 8);
      Due.is("as joined", x.as(spot, 1), spot % 8);
      Due.is("as house", x.as(spot, 0), spot % 8);
      Due.is("as smithy", x.as(spot, 6), Due.KIND);
    }
    Due.is("no house 8", x.hold(9, 8), Due.BEYOND);
    Due.is("it holds yet", x.as(9, 0), 1);
    for (int spot = 9; spot >= 0; spot--) {
      Due.is("let go " + spot, x.hold(spot, -1), 1);
      Due.is("held", x.count(7), spot);
    }
  }

  private static SledgeStove late() {
    SledgeStove x = new SledgeStove();
    Due.pass(x, 9903);
    for (int i = 0; i < 8; i++) {
      x.house(0);
    }
    return x;
  }

  private static void lastQuarter() {
    Due.promise("2 to 11, QUARTER 9999");
    SledgeStove x = late();
    Due.is("96 to the end", x.quarters(96), 5);
    Due.is("the end", x.now(0), 9999);
    Due.is("no more", x.quarters(1), Due.STATE);
    Due.is("nor 96", x.quarters(96), Due.STATE);
    Due.is("97", x.quarters(97), Due.BEYOND);
    Due.is("steep", x.steep(0, 2), 1);
    Due.is("send", x.send(1), 2);
    Due.is("on its way", x.send(1), Due.STATE);
    Due.is("warmer by hand", x.change(7, 1, 400), 20 + 9);
    Due.is("lend", x.lend(6, 7, 8), 16);
    Due.is("ahead by none", x.ahead(0, 11), 400);
    Due.is("ahead by one", x.ahead(1, 11), Due.STATE);
    Due.is("ahead by one, no house", x.ahead(1, 12), Due.BEYOND);
    Due.is("quarter", x.count(0), 9999);
  }

  private static void lastQuarterAhead() {
    Due.promise("12 to 42, the last quarters");
    SledgeStove x = late();
    Due.is("9903: ahead", x.ahead(96, 11), 29);
    Due.is("9903: best", x.best(96), 0);
    Due.is("9903: lost", x.lost(96), 255);
    Due.is("9903: logs", x.logs(7, 96), Due.NONE);
    Due.is("9903: wall, at 59 with the thickest", x.wall(7, 96), Due.NONE);
    Due.is("9903: straw", x.straw(96), 0);
    Due.is("9903: kindFor", x.kindFor(7, 96), 3);
    x.quarters(1);
    Due.is("9904: ahead", x.ahead(96, 0), Due.STATE);
    Due.is("9904: best", x.best(96), Due.STATE);
    Due.is("9904: lost", x.lost(96), Due.STATE);
    Due.is("9904: logs", x.logs(7, 96), Due.STATE);
    Due.is("9904: wall", x.wall(7, 96), Due.STATE);
    Due.is("9904: straw", x.straw(96), Due.STATE);
    Due.is("9904: kindFor", x.kindFor(7, 96), Due.STATE);
    Due.is("9904: best of 95", x.best(95), 0);
    Due.is("9904: logs of 95", x.logs(7, 95), Due.NONE);
    Due.is("9904: cold", x.cold(0), Due.STATE);
    Due.is("9904: bake", x.bake(0), Due.STATE);
  }

  private static void lastQuarterBack() {
    Due.promise("44 undo: from the last quarter");
    SledgeStove x = Due.village("house");
    x.image();
    Due.pass(x, 9999);
    x.image();
    Due.is("the end", x.undo(), 9999);
    Due.is("no more", x.quarters(1), Due.STATE);
    SledgeStove y = Due.village("house");
    y.image();
    Due.pass(y, 9999);
    Due.is("the begin", y.undo(), 0);
    Due.is("as at first", y.of(0, 1), 100);
    Due.is("on it goes", y.quarters(96), 5);
  }

  private static void mostBread() {
    Due.promise("10 quarters: a loaf in each");
    SledgeStove x = Due.village("empty warm 400 wall 40 logs 0");
    Due.pass(x, 9998);
    Due.is("bread", x.of(0, 5), 9998);
    Due.is("the last", x.quarters(1), 1);
    Due.is("of all", x.count(3), 9999);
    Due.is("no logs", x.now(4), 0);
  }
}
