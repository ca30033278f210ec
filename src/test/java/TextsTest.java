/** Promises 31 to 33: the tape and its texts. */
public final class TextsTest {
  public static void main(String[] args) {
    feed();
    wipe();
    houses();
    others();
    tokens();
    faults();
    nineHouses();
    newHouses();
    nothingChanges();
    Due.end();
  }

  private static void feed() {
    Due.promise("31 feed");
    SledgeStove x = new SledgeStove();
    for (int n : new int[] {0, -1, 5, Integer.MAX_VALUE, Integer.MIN_VALUE}) {
      Due.is("feed of " + n, x.feed('i', n), Due.BEYOND);
    }
    Due.is("none came", x.count(5), 0);
    Due.is("the highest first", x.feed(('i' << 16) + ('c' << 8) + 'e', 3), 3);
    Due.is("ice", x.text(), 1);
    Due.is("so it is", x.now(5), 1);
    Due.is("only the lowest", x.feed(('x' << 24) + ('x' << 16) + ('t' << 8) + 'h', 2), 2);
    Due.is("one more", x.feed(0xffffff00 + 'a', 1), 3);
    Due.is("and one", x.feed('w', 1), 4);
    Due.is("thaw", x.text(), 1);
    Due.is("so it is", x.now(5), 0);
    for (int i = 1; i <= 29; i++) {
      Due.is("four more", x.feed(0x20202020, 4), 4 * i);
    }
    Due.is("up to 119", x.feed(0x202020, 3), 119);
    Due.is("no room for two", x.feed(0, 2), Due.FULL);
    Due.is("no room for four", x.feed(0, 4), Due.FULL);
    Due.is("no such number", x.feed(0, 5), Due.BEYOND);
    Due.is("nothing came", x.count(5), 119);
    Due.is("the last one", x.feed('!', 1), 120);
    Due.is("no more", x.feed(' ', 1), Due.FULL);
    Due.is("all were kept", x.text(), -1 - 119);
    Due.is("again from the begin", x.feed(-1, 4), 4);
    Due.is("bytes above 127", x.text(), -1);
  }

  private static void wipe() {
    Due.promise("32 wipe");
    SledgeStove x = new SledgeStove();
    Due.is("none", x.wipe(), 0);
    Due.tape(x, "house;");
    Due.is("six", x.wipe(), 6);
    Due.is("none again", x.wipe(), 0);
    Due.is("no house came", x.count(1), 0);
    Due.is("nothing before it", Due.text(x, "ice"), 1);
  }

  private static void houses() {
    Due.promise("33 text: houses");
    String[] words = {"house", "joined", "draughty", "deep", "empty", "proud", "smithy"};
    SledgeStove x = new SledgeStove();
    for (int kind = 0; kind < words.length; kind++) {
      Due.is(words[kind], Due.text(x, words[kind]), 1);
      int[] first = {kind, 100, 10, 8, 60, 0};
      for (int what = 0; what < first.length; what++) {
        Due.is(words[kind] + " " + what, x.of(kind, what), first[what]);
      }
    }
    has("house warm 0", 0, 10, 8, 60);
    has("house warm 400", 400, 10, 8, 60);
    has("house wall 1", 100, 1, 8, 60);
    has("house wall 40", 100, 40, 8, 60);
    has("house logs 0", 100, 10, 0, 60);
    has("house logs 99", 100, 10, 99, 60);
    has("house bound 0", 100, 10, 8, 0);
    has("house bound 400", 100, 10, 8, 400);
    has("house warm 1 wall 2 logs 3 bound 4", 1, 2, 3, 4);
    has("house warm 1 logs 3", 1, 10, 3, 60);
    has("house wall 2 bound 4", 100, 2, 8, 4);
  }

  private static void has(String text, int warmth, int wall, int logs, int bound) {
    SledgeStove x = new SledgeStove();
    Due.is(text, Due.text(x, text), 1);
    Due.is(text + ": houses", x.count(1), 1);
    int[] told = {0, warmth, wall, logs, bound, 0};
    for (int what = 0; what < told.length; what++) {
      Due.is(text + ": " + what, x.of(0, what), told[what]);
    }
    Due.is(text + ": the tape", x.count(5), 0);
  }

  private static void others() {
    Due.promise("33 text: others");
    SledgeStove x = new SledgeStove();
    Due.is("four items", Due.text(x, "steep 0 0;steep 6 9;out 100;ice"), 4);
    Due.is("steep 0", x.steep(0, 1), 0);
    Due.is("steep 6", x.steep(6, 1), 9);
    Due.is("steep 1", x.steep(1, 1), 1);
    Due.is("out", x.now(6), 100);
    Due.is("ice", x.now(5), 1);
    Due.is("one behind the other", Due.text(x, "out 3;thaw;ice;thaw;out 0"), 5);
    Due.is("out", x.now(6), 0);
    Due.is("thaw", x.now(5), 0);
    Due.is("a house more", Due.text(x, "joined;smithy"), 2);
    Due.is("and one more", Due.text(x, "deep"), 1);
    Due.is("three", x.count(1), 3);
    Due.is("in their order", x.of(0, 0) * 100 + x.of(1, 0) * 10 + x.of(2, 0), 163);
    Due.is("thirty", Due.text(x, "ice;ice;ice;ice;ice;ice;ice;ice;ice;ice;ice;ice;ice;ice;ice;"
        + "ice;ice;ice;ice;ice;ice;ice;ice;ice;ice;ice;ice;ice;ice;ice"), 30);
    Due.is("no finding", x.status(-1), 0);
  }

  private static void tokens() {
    Due.promise("33 text: tokens");
    SledgeStove x = new SledgeStove();
    Due.is("without blanks", Due.text(x, "house warm7wall8logs9bound10;out11"), 2);
    Due.is("warm", x.of(0, 1), 7);
    Due.is("wall", x.of(0, 2), 8);
    Due.is("logs", x.of(0, 3), 9);
    Due.is("bound", x.of(0, 4), 10);
    Due.is("out", x.now(6), 11);
    Due.is("many blanks", Due.text(x, "   out    12  ;   thaw   "), 2);
    Due.is("out", x.now(6), 12);
    Due.is("noughts before", Due.text(x, "out 000000000013"), 1);
    Due.is("out", x.now(6), 13);
    Due.is("two numbers need a blank", Due.text(x, "steep 11"), -7);
    Due.is("words end at a number", Due.text(x, "steep3 4"), 1);
    Due.is("steep", x.steep(3, 1), 4);
  }

  private static void faults() {
    Due.promise("33 text: faults");
    fault("", 0);
    fault("   ", 3);
    fault(";", 0);
    fault("ice;", 4);
    fault("ice; ", 5);
    fault("ice;;ice", 4);
    fault("ice ice", 4);
    fault("iceice", 0);
    fault("ic", 0);
    fault("icy", 0);
    fault("thaws", 0);
    fault("thawz", 0);
    fault("icea", 0);
    fault("ice{", 3);
    fault("ice`", 3);
    fault("out 1/", 5);
    fault("out 1:", 5);
    fault("Ice", 0);
    fault("iCe", 0);
    fault(" ice\tthaw", 4);
    fault("ice\n", 3);
    fault("ice,thaw", 3);
    fault("ice" + (char) 233, 3);
    fault("ice" + (char) 0, 3);
    fault("ice 1", 4);
    fault("1", 0);
    fault("out", 3);
    fault("out ", 4);
    fault("out ;", 4);
    fault("out ice", 4);
    fault("out 101", 4);
    fault("out 1000", 4);
    fault("out 4294967296", 4);
    fault("out 18446744073709551616", 4);
    fault("out -1", 4);
    fault("out 1 2", 6);
    fault("out 1 ;", 7);
    fault("out 1 2;", 6);
    fault("steep", 5);
    fault("steep ice", 6);
    fault("steep 7 1", 6);
    fault("steep 6", 7);
    fault("steep 6;", 7);
    fault("steep 6 10", 8);
    fault("steep 6 9 1", 10);
    fault("steep 6 ice", 8);
    fault("house 1", 6);
    fault("house warm", 10);
    fault("house warm ;", 11);
    fault("house warm wall", 11);
    fault("house warm 401", 11);
    fault("house warm 1 2", 13);
    fault("house warm 1 warm 1", 13);
    fault("house wall 0", 11);
    fault("house wall 41", 11);
    fault("house wall 5 warm 1", 13);
    fault("house wall 5 wall 5", 13);
    fault("house logs 100", 11);
    fault("house logs 1 wall 1", 13);
    fault("house bound 401", 12);
    fault("house bound", 11);
    fault("house bound 1 logs 1", 14);
    fault("house bound 1 bound 1", 14);
    fault("house house", 6);
    fault("house ice", 6);
    fault("warm 1", 0);
    fault("houses", 0);
    fault("housewarm 1", 0);
    fault("house;hous", 6);
    fault("house;dee", 6);
    fault("house;#", 6);
    fault("house warm #", 11);
    fault("out 101 #", 4);
  }

  private static void fault(String text, int place) {
    SledgeStove x = Due.village("house", "steep 6 3");
    Due.is("'" + text + "'", Due.text(x, text), -1 - place);
    Due.is("'" + text + "': the tape", x.count(5), 0);
    Due.is("'" + text + "': houses", x.count(1), 1);
    Due.is("'" + text + "': no finding", x.status(-1), 0);
  }

  private static void nineHouses() {
    Due.promise("33 text: the ninth");
    SledgeStove x = new SledgeStove();
    Due.is("eight", Due.text(x, "deep;deep;deep;deep;deep;deep;deep;deep"), 8);
    Due.is("the ninth", Due.text(x, "ice; house warm 401"), -1 - 5);
    Due.is("no house", Due.text(x, "warm"), -1);
    Due.is("another item", Due.text(x, "ice"), 1);
    SledgeStove y = Due.village("house;house;house");
    Due.is("six more", Due.text(y, "deep;deep;deep;deep;deep; deep"), -1 - 26);
    Due.is("none of them came", y.count(1), 3);
    Due.is("no finding", y.status(-1), 0);
    Due.is("five more", Due.text(y, "deep;deep;deep;deep;deep"), 5);
    Due.is("FULL by house", y.house(0), Due.FULL);
  }

  private static void newHouses() {
    Due.promise("33 text: new houses");
    SledgeStove y = new SledgeStove();
    y.image();
    Due.text(y, "proud warm 400 wall 40 logs 50 bound 5");
    y.quarters(4);
    Due.is("loaves", y.of(0, 5), 4);
    y.undo();
    Due.is("a fault", Due.text(y, "house house"), -1 - 6);
    Due.is("house", y.house(0), 0);
    int[] first = {0, 100, 10, 8, 60, 0};
    for (int what = 0; what < first.length; what++) {
      Due.is("anew " + what, y.of(0, what), first[what]);
    }
    y.undo();
    Due.is("by text", Due.text(y, "house"), 1);
    for (int what = 0; what < first.length; what++) {
      Due.is("by text " + what, y.of(0, what), first[what]);
    }
  }

  private static void nothingChanges() {
    Due.promise("33 text: nothing changes");
    SledgeStove x = Due.village("house");
    Due.is("the last item is wrong", Due.text(x, "smithy;steep 2 5;out 50;ice;thaw 1"), -1 - 33);
    Due.is("houses", x.count(1), 1);
    Due.is("steep", x.steep(2, 1), 1);
    Due.is("out", x.now(6), 20);
    Due.is("ice", x.now(5), 0);
    x.house(0);
    Due.is("a new house is as at first", x.of(1, 0), 0);
    x.seed(7);
    x.hold(3, 0);
    x.quarters(2);
    x.send(1);
    Due.is("a good one", Due.text(x, "house"), 1);
    Due.is("the stove goes on", x.now(2), 1);
    Due.is("z", x.count(6), 7);
    Due.is("spots", x.as(3, 0), 0);
    Due.is("quarter", x.now(0), 2);
    Due.is("burnt", x.now(4), 2);
    x.quarters(1);
    Due.is("and comes", x.send(0), 1);
  }
}
