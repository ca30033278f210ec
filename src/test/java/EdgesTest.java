/** What the answers of promises 2 to 44 are just at, and just beside, the numbers that the document names. */
public final class EdgesTest {
  public static void main(String[] args) {
    losesCut();
    heatsTurn();
    warmthAtMost();
    warmthAtLeast();
    logsAsBurnt();
    getsCut();
    endsOfTheLane();
    breadAt180();
    onItsWay();
    coldAtBound();
    lendEdges();
    aheadEdges();
    coldEdges();
    bakeEdges();
    lostEdges();
    stayEdges();
    logsEdges();
    wallEdges();
    kindForEdges();
    leastOfNone();
    lastOfThrees();
    severalAlike();
    diaryEdges();
    faultsChangeNothing();
    imageEdges();
    statusEdges();
    Due.end();
  }

  private static SledgeStove one(int kind, int warmth, int wall, int out) {
    SledgeStove x = new SledgeStove();
    x.house(0);
    x.change(0, 3, 0);
    x.house(kind);
    x.change(1, 1, warmth);
    x.change(1, 2, wall);
    x.weather(1, out);
    return x;
  }

  private static void losesCut() {
    Due.promise("3 of: LOSES is cut");
    int[][] due = {{0, 0, 0, 0, 0, 0, 0}, {1, 1, 2, 0, 2, 1, 1}, {1, 1, 2, 0, 2, 1, 1}, {2, 2, 4, 1, 4, 2, 2},
        {3, 3, 6, 1, 6, 3, 3}, {4, 4, 8, 2, 8, 4, 4}};
    int[] warmths = {39, 40, 59, 60, 80, 100};
    for (int kind = 0; kind <= 6; kind++) {
      for (int i = 0; i < warmths.length; i++) {
        SledgeStove x = one(kind, warmths[i], 20, 20);
        Due.is("kind " + kind + " at " + warmths[i], x.of(1, 7), due[i][kind]);
        x.quarters(1);
        Due.is("and it is lost", x.of(1, 1), warmths[i] - due[i][kind]);
      }
      Due.is("as warm as out", one(kind, 100, 1, 100).of(1, 7), 0);
      Due.is("colder than out", one(kind, 99, 1, 100).of(1, 7), 0);
      Due.is("far colder than out", one(kind, 0, 1, 100).of(1, 7), 0);
      Due.is("0 and 0", one(kind, 0, 1, 0).of(1, 7), 0);
    }
  }

  private static void heatsTurn() {
    Due.promise("3 of: HEATS at 200");
    int[] warmths = {0, 199, 200, 201, 400};
    int[] proud = {40, 40, 0, 0, 0};
    int[] smithy = {60, 60, 20, 20, 20};
    for (int i = 0; i < warmths.length; i++) {
      Due.is("proud at " + warmths[i], one(5, warmths[i], 1, 0).of(1, 6), proud[i]);
      Due.is("smithy at " + warmths[i], one(6, warmths[i], 1, 0).of(1, 6), smithy[i]);
      Due.is("deep at " + warmths[i], one(3, warmths[i], 1, 0).of(1, 6), 30);
    }
  }

  private static void warmthAtMost() {
    Due.promise("10 quarters: WARMTH 400 at most");
    // 400 less 300 by 40 are 393; 399 less 299 by 40 are 392.
    after("house warm 359 wall 40;house", "out 100", 0, 392);
    after("house warm 360 wall 40;house", "out 100", 0, 393);
    after("house warm 361 wall 40;house", "out 100", 0, 393);
    after("house warm 400 wall 40;house", "out 100", 0, 393);
    after("house;joined warm 389 wall 40", "out 100", 1, 392);
    after("house;joined warm 390 wall 40", "out 100", 1, 393);
    after("house;joined warm 391 wall 40", "out 100", 1, 393);
    after("house;joined warm 400 wall 40", "out 100", 1, 393);
  }

  private static void after(String houses, String weather, int house, int due) {
    SledgeStove x = Due.village(houses, weather);
    x.quarters(1);
    Due.is(houses + ";" + weather, x.of(house, 1), due);
  }

  private static void warmthAtLeast() {
    Due.promise("10 quarters: WARMTH 0 at least");
    after("house;draughty warm 199 wall 1", "out 100", 1, 1);
    after("house;draughty warm 200 wall 1", "out 100", 1, 0);
    after("house;draughty warm 201 wall 1", "out 100", 1, 0);
    after("house;empty warm 400 wall 1", "out 0", 1, 0);
    after("house;empty warm 1 wall 1", "out 0", 1, 0);
    after("house;empty warm 1 wall 2", "out 0", 1, 1);
    after("house;house warm 400 wall 1", "out 0", 1, 0);
    after("house;deep warm 400 wall 1", "out 0", 1, 200);
    after("house;house warm 0 wall 1", "out 100", 1, 0);
    after("draughty warm 0 wall 1", "out 0", 0, 0);
  }

  private static void logsAsBurnt() {
    Due.promise("10 quarters: as many LOGS as it BURNS");
    int[] burns = {1, 1, 1, 1, 0, 1, 2};
    int[] heats = {40, 40, 40, 30, 40, 40, 60};
    for (int kind = 0; kind <= 6; kind++) {
      for (int logs = 0; logs <= 3; logs++) {
        SledgeStove x = new SledgeStove();
        x.house(kind);
        x.change(0, 1, 20);
        x.change(0, 2, 40);
        x.change(0, 3, logs);
        boolean heated = logs >= burns[kind];
        // Of 60 and 80 above a wall of 40 there are one and two lost, of a draught twice that.
        int lost = kind == 6 || kind == 0 || kind == 1 || kind == 5 ? (heats[kind] / 40) : kind == 3 ? 0 : 2;
        x.quarters(1);
        Due.is("kind " + kind + " with " + logs, x.of(0, 1), heated ? 20 + heats[kind] - lost : 20);
        Due.is("logs", x.of(0, 3), heated ? logs - burns[kind] : logs);
        Due.is("burnt", x.now(4), heated ? burns[kind] : 0);
      }
    }
  }

  private static void getsCut() {
    Due.promise("10 quarters: a fourth, cut");
    int[] kinds = {0, 3, 5, 5, 6, 6};
    int[] warmths = {20, 20, 199, 200, 199, 200};
    int[] due = {10, 7, 10, 0, 15, 5};
    for (int joined = 1; joined <= 3; joined += 2) {
      for (int i = 0; i < kinds.length; i++) {
        SledgeStove x = new SledgeStove();
        x.house(kinds[i]);
        x.change(0, 1, warmths[i]);
        x.house(joined);
        x.change(1, 1, 20);
        x.change(1, 2, 40);
        x.quarters(1);
        Due.is("kind " + joined + " beside kind " + kinds[i] + " at " + warmths[i], x.of(1, 1), 20 + due[i]);
      }
    }
  }

  private static void endsOfTheLane() {
    Due.promise("10 quarters: the neighbours i - 1 and i + 1");
    for (int at = 0; at <= 7; at++) {
      SledgeStove x = new SledgeStove();
      for (int i = 0; i < 8; i++) {
        x.house(1);
        x.change(i, 1, 20);
        x.change(i, 2, 40);
        x.steep(Math.min(i, 6), 0);
      }
      x.send(at);
      x.quarters(1);
      for (int i = 0; i < 8; i++) {
        int due = i == at ? 59 : i == at - 1 || i == at + 1 ? 30 : 20;
        Due.is("stove at " + at + ", house " + i, x.of(i, 1), due);
      }
    }
  }

  private static void breadAt180() {
    Due.promise("10 quarters: BREAD at 180");
    // 196 less 17 are 179, 197 less 17 are 180.
    bakes("house warm 156", 179, 0);
    bakes("house warm 157", 180, 1);
    bakes("house warm 158", 181, 1);
    bakes("house warm 157 logs 1", 180, 1);
    bakes("house warm 199 logs 0", 182, 0);
    bakes("smithy warm 136", 179, 0);
    bakes("smithy warm 137 logs 2", 180, 1);
    bakes("smithy warm 199 logs 1", 182, 0);
    bakes("proud warm 200 wall 9 logs 1", 180, 1);
    bakes("proud warm 200 wall 8", 178, 0);
  }

  private static void bakes(String text, int warmth, int due) {
    SledgeStove x = Due.village(text);
    Due.is(text, x.quarters(1), due);
    Due.is(text + ": bread", x.of(0, 5), due);
    Due.is(text + ": warmth", x.of(0, 1), warmth);
  }

  private static void onItsWay() {
    Due.promise("9 send, 10 quarters: on its way");
    for (int steep = 0; steep <= 9; steep++) {
      SledgeStove x = Due.village("house;house warm 20 wall 40");
      x.steep(0, steep);
      Due.is("send", x.send(1), steep);
      Due.is("again", x.send(1), steep == 0 ? 0 : Due.STATE);
      for (int n = 1; n <= steep; n++) {
        x.quarters(1);
        Due.is("yet", x.now(2), steep - n);
        Due.is("none is heated", x.of(1, 1), 20);
      }
      x.quarters(1);
      Due.is("heated", x.of(1, 1), 59);
      Due.is("there", x.now(2), 0);
      Due.is("one log", x.now(4), 1);
    }
  }

  private static void coldAtBound() {
    Due.promise("11 now: COLD at its BOUND");
    int[] warmths = {0, 0, 1, 59, 60, 61, 399, 400, 399};
    int[] bounds = {0, 1, 1, 60, 60, 60, 400, 400, 399};
    for (int kind = 0; kind <= 6; kind++) {
      for (int i = 0; i < warmths.length; i++) {
        SledgeStove x = one(kind, warmths[i], 40, 0);
        x.change(1, 4, bounds[i]);
        boolean cold = kind != 4 && warmths[i] < bounds[i];
        Due.is("kind " + kind + ": " + warmths[i] + " and " + bounds[i], x.now(3), cold ? 2 : 0);
        Due.is("ahead", x.ahead(0, 0), cold ? 2 : 0);
        Due.is("cold", x.cold(1) == 0 ? 1 : 0, cold ? 1 : 0);
      }
    }
  }

  private static void lendEdges() {
    Due.promise("7 lend: all there is, 99 at most");
    int[][] rows = {{0, 0, 1, Due.STATE}, {1, 0, 1, 1}, {1, 98, 1, 99}, {1, 99, 1, Due.STATE}, {99, 0, 99, 99},
        {99, 1, 98, 99}, {99, 1, 99, Due.STATE}, {98, 0, 99, Due.STATE}, {99, 0, 100, Due.BEYOND},
        {99, 0, 0, Due.BEYOND}, {50, 50, 49, 99}, {50, 50, 50, Due.STATE}};
    for (int[] row : rows) {
      SledgeStove x = Due.village("house logs " + row[0] + ";house logs " + row[1]);
      String call = row[2] + " of " + row[0] + " to " + row[1];
      Due.is(call, x.lend(0, 1, row[2]), row[3]);
      boolean lent = row[3] > 0;
      Due.is(call + ": left", x.of(0, 3), lent ? row[0] - row[2] : row[0]);
      Due.is(call + ": then", x.of(1, 3), lent ? row[1] + row[2] : row[1]);
    }
  }

  private static void aheadEdges() {
    Due.promise("12 ahead: 0 and 96");
    SledgeStove x = Due.village("empty warm 400 wall 40 logs 0;house warm 300 wall 40 logs 99;house bound 0", "steep 0 0");
    Due.is("no bread by 0", x.ahead(0, 3), 0);
    Due.is("96 loaves", x.ahead(96, 3), 96);
    Due.is("no logs", x.ahead(96, 2), 0);
    x.send(1);
    Due.is("96 logs", x.ahead(96, 2), 96);
    Due.is("96 loaves there", x.ahead(96, 3), 96);
    Due.is("the least is of those that need", x.ahead(0, 1), 100);
    x.quarters(96);
    Due.is("96 logs are burnt", x.now(4), 96);
    Due.is("three are left", x.ahead(96, 2), 3);
  }

  private static void coldEdges() {
    Due.promise("13 cold: 0 to 96");
    SledgeStove x = Due.village("house warm 362 bound 362");
    for (int logs = 0; logs <= 97; logs++) {
      x.change(0, 3, logs);
      Due.is("with " + logs + " logs", x.cold(0), logs < 96 ? logs + 1 : Due.NONE);
    }
    x.change(0, 4, 363);
    Due.is("now", x.cold(0), 0);
    x.change(0, 0, 4);
    Due.is("empty", x.cold(0), Due.NONE);
  }

  private static void bakeEdges() {
    Due.promise("14 bake: first, and latest of all");
    SledgeStove x = Due.village("house warm 157");
    Due.is("in the first", x.bake(0), 1);
    x.change(0, 1, 156);
    Due.is("in the second", x.bake(0), 2);
    x.change(0, 3, 1);
    Due.is("no second log", x.bake(0), Due.NONE);
    SledgeStove y = Due.village("house;house warm 200 wall 40");
    Due.is("there", y.bake(1), 2);
    y.steep(0, 0);
    Due.is("there at once", y.bake(1), 1);
    SledgeStove z = Due.village("house warm 400");
    z.quarters(3);
    Due.is("three before", z.of(0, 5), 3);
    Due.is("one more than now", z.bake(0), 1);
  }

  private static void lostEdges() {
    Due.promise("16 lost: none and all");
    SledgeStove x = new SledgeStove();
    for (int i = 0; i < 8; i++) {
      x.house(0);
      x.change(i, 4, 0);
      x.steep(Math.min(i, 6), 0);
    }
    Due.is("none", x.lost(96), 0);
    for (int i = 0; i < 8; i++) {
      x.change(i, 4, 400);
    }
    Due.is("all", x.lost(1), 255);
    x.change(3, 4, 128);
    Due.is("all but one that may be heated", x.lost(1), 255 - 8);
    x.change(3, 4, 129);
    Due.is("just not", x.lost(1), 255);
    x.change(7, 0, 4);
    Due.is("one doesn't need", x.lost(1), 127);
  }

  private static void stayEdges() {
    Due.promise("17 stay: 0 to 48, 0 to 40 behind");
    SledgeStove x = Due.village("smithy warm 180 wall 4 logs 99 bound 180", "out 0");
    Due.is("warm enough", x.stay(0, 0), 0);
    Due.is("never one behind", x.stay(0, 1), Due.NONE);
    SledgeStove y = Due.village("house warm 139 wall 40 bound 139", "out 100");
    Due.is("it loses nothing", y.stay(0, 40), 0);
    y.change(0, 1, 138);
    Due.is("one below", y.stay(0, 40), 1);
    Due.is("41", y.stay(0, 41), Due.BEYOND);
    y.change(0, 3, 0);
    Due.is("no log", y.stay(0, 40), Due.NONE);
    y.change(0, 4, 138);
    Due.is("none needed", y.stay(0, 40), 0);
  }

  private static void logsEdges() {
    Due.promise("18 logs: 0 to 99");
    SledgeStove x = Due.village("smithy warm 180 wall 4 bound 180", "out 0");
    Due.is("2", x.logs(0, 1), 2);
    Due.is("98", x.logs(0, 49), 98);
    Due.is("100 are too many", x.logs(0, 50), Due.NONE);
    SledgeStove y = Due.village("house warm 362 bound 362");
    Due.is("1", y.logs(0, 1), 1);
    Due.is("96", y.logs(0, 96), 96);
    y.change(0, 3, 99);
    Due.is("as many as it has is no matter", y.logs(0, 96), 96);
    y.change(0, 1, 20);
    y.change(0, 4, 20);
    Due.is("0", y.logs(0, 96), 0);
    y.change(0, 4, 400);
    Due.is("none is enough", y.logs(0, 1), Due.NONE);
  }

  private static void wallEdges() {
    Due.promise("19 wall: 1 to 40");
    SledgeStove x = Due.village("house logs 0;house warm 101 bound 99", "out 20");
    Due.is("81 by 40 are 2", x.wall(1, 1), 28);
    x.change(1, 4, 100);
    Due.is("81 by 41 would be 1", x.wall(1, 1), Due.NONE);
    x.change(1, 1, 99);
    x.change(1, 4, 98);
    Due.is("79 by 40 are 1", x.wall(1, 1), 40);
    x.change(1, 4, 20);
    Due.is("by 1 all is lost", x.wall(1, 1), 1);
    x.change(1, 4, 21);
    Due.is("by 2 half", x.wall(1, 1), 2);
  }

  private static void kindForEdges() {
    Due.promise("21 kindFor: of several the least");
    SledgeStove x = Due.village("house;house warm 20 wall 40");
    Due.is("joined as deep", x.kindFor(1, 1), 1);
    x.change(1, 2, 10);
    Due.is("deep loses less", x.kindFor(1, 1), 3);
    x.change(0, 3, 0);
    Due.is("all alike", x.kindFor(1, 96), 0);
    Due.is("empty needs no logs", x.kindFor(0, 1), 4);
    x.change(0, 3, 2);
    x.change(0, 1, 20);
    Due.is("a smithy", x.kindFor(0, 1), 6);
  }

  private static void leastOfNone() {
    Due.promise("12, 22, 25, 40: 400 without one that needs");
    SledgeStove x = Due.village("empty warm 0;empty warm 0");
    x.sheet(0, 8, 2);
    Due.is("ahead", x.ahead(96, 1), 400);
    Due.is("round", x.round(12), 400);
    Due.is("least", x.least(12), 400);
    Due.is("rounds", x.rounds(0, 12), 400);
    x.change(1, 0, 2);
    Due.is("ahead, with one", x.ahead(96, 1), 0);
    Due.is("round, with one", x.round(12), 0);
    Due.is("rounds, with one", x.rounds(0, 12), 0);
  }

  /** Only who is heated in each of three quarters comes to 14, 18 and 20. */
  private static void lastOfThrees() {
    Due.promise("24 three, 25 least, 27 thrift: the last of all");
    SledgeStove x = new SledgeStove();
    for (int i = 0; i < 8; i++) {
      x.house(i == 7 ? 2 : 4);
      x.steep(Math.min(i, 6), 0);
    }
    x.change(7, 1, 0);
    x.change(7, 2, 3);
    x.change(7, 4, 14);
    x.weather(1, 0);
    Due.is("three", x.three(1), 777);
    Due.is("least", x.least(1), 14);
    Due.is("thrift", x.thrift(1), 777);
    x.change(7, 4, 15);
    Due.is("below its bound once", x.thrift(1), Due.NONE);
    x.change(7, 4, 0);
    Due.is("no bound", x.thrift(1), 0);
    x.change(7, 3, 2);
    x.change(7, 4, 14);
    Due.is("no third log", x.thrift(1), Due.NONE);
  }

  private static void severalAlike() {
    Due.promise("15, 20, 24, 26, 27, 28: of several the least");
    SledgeStove x = new SledgeStove();
    for (int i = 0; i < 8; i++) {
      x.house(0);
      x.change(i, 1, 20);
      x.change(i, 4, 0);
      x.change(i, 3, 0);
    }
    Due.is("best", x.best(96), 0);
    Due.is("straw", x.straw(96), 0);
    Due.is("three", x.three(12), 0);
    Due.is("pace", x.pace(), 1);
    Due.is("thrift", x.thrift(12), 0);
    Due.is("middle", x.middle(), 3);
    Due.is("kindFor", x.kindFor(7, 96), 0);
  }

  private static void diaryEdges() {
    Due.promise("41 diary: none and all");
    SledgeStove x = new SledgeStove();
    for (int i = 0; i < 8; i++) {
      x.house(4);
      x.change(i, 1, i == 0 ? 400 : 0);
      x.change(i, 2, 40);
      x.steep(Math.min(i, 6), 0);
    }
    x.sheet(0, 8, 8);
    Due.is("all without house 0", x.diary(0, 1), 343);
    x.write(0, 0, 3);
    Due.is("thrice there", x.diary(0, 1), 1);
    x.write(0, 0, 4);
    Due.is("four loaves", x.diary(0, 1), 0);
    x.write(0, 0, 1);
    Due.is("once there", x.diary(0, 1), 3 * 49);
    x.sheet(0, 8, 1);
    x.write(0, 0, 12);
    // Behind 24 quarters away it is too cold to bake in all 12.
    Due.is("first or second for a stay of 12", x.diary(0, 12), 2 * 49);
    x.sheet(0, 8, 40);
    x.write(0, 39, 77);
    Due.is("numbers behind the houses are no matter", x.diary(0, 1), 343);
    x.sheet(0, 8, 0);
    Due.is("no number", x.diary(0, 12), 512);
  }

  private static void faultsChangeNothing() {
    Due.promise("33 text: a fault changes nothing but the tape");
    String[] texts = {"ice;out 3;steep 2 5;smithy warm 7;house house", "thaw;out 0;deep bound 401", "out 9;steep 6 0;steep 6",
        "house;house;house;house;house;house;house;house;house", "out 50;", "ice ;; ice"};
    for (Scene scene : Scene.all()) {
      for (String text : texts) {
        SledgeStove x = scene.make();
        x.wipe();
        int fault = Due.text(x, text);
        Due.is(text + ", " + scene.name + ": a fault", fault < 0 && fault > -121 ? 1 : 0, 1);
        Due.is("no finding", x.status(-1), 0);
        SledgeStove twin = scene.make();
        twin.wipe();
        boolean same = Scene.everything(x).equals(Scene.everything(twin));
        Due.is(text + ", " + scene.name + ": the same", same ? 1 : 0, 1);
      }
    }
  }

  private static void imageEdges() {
    Due.promise("43 image, 44 undo: all but the tape and sheets");
    for (Scene scene : Scene.all()) {
      SledgeStove x = scene.make();
      x.image();
      if (x.count(1) > 0) {
        x.change(0, 1, 1);
        x.send(0);
      }
      x.house(6);
      x.quarters(2);
      x.weather(0, 1);
      x.weather(1, 77);
      x.seed(9);
      x.hold(5, -1);
      x.steep(3, 9);
      Due.is(scene.name + ": undo", x.undo(), scene.quarter);
      SledgeStove twin = scene.make();
      twin.image();
      boolean same = Scene.everything(x).equals(Scene.everything(twin));
      Due.is(scene.name + ": as it was", same ? 1 : 0, 1);
    }
  }

  private static void statusEdges() {
    Due.promise("47 status: -1 to 6");
    SledgeStove x = new SledgeStove();
    int counted = 0;
    for (int which : new int[] {Integer.MIN_VALUE, -2, 7, Integer.MAX_VALUE}) {
      Due.is("status " + which, x.status(which), Due.BEYOND);
      counted++;
      Due.is("it counts itself", x.status(0), counted);
      Due.is("in all", x.status(-1), counted);
    }
    for (int which = 1; which <= 6; which++) {
      Due.is("no other " + which, x.status(which), 0);
    }
    x.image();
    x.undo();
    Due.is("undo takes none back", x.status(-1), counted);
    x.tear();
    x.undo();
    Due.is("one more", x.status(3), 1);
    Due.is("in all", x.status(-1), counted + 1);
  }
}
