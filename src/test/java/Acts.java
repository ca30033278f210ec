/** The acts of the face by their names, with what is given to them in a row. */
final class Acts {
  private Acts() {
  }

  static int call(SledgeStove x, String act, int... a) {
    switch (act) {
      case "house":
        return x.house(a[0]);
      case "of":
        return x.of(a[0], a[1]);
      case "change":
        return x.change(a[0], a[1], a[2]);
      case "steep":
        return x.steep(a[0], a[1]);
      case "weather":
        return x.weather(a[0], a[1]);
      case "lend":
        return x.lend(a[0], a[1], a[2]);
      case "way":
        return x.way(a[0], a[1]);
      case "send":
        return x.send(a[0]);
      case "quarters":
        return x.quarters(a[0]);
      case "now":
        return x.now(a[0]);
      case "ahead":
        return x.ahead(a[0], a[1]);
      case "cold":
        return x.cold(a[0]);
      case "bake":
        return x.bake(a[0]);
      default:
        return callWhereTo(x, act, a);
    }
  }

  private static int callWhereTo(SledgeStove x, String act, int[] a) {
    switch (act) {
      case "best":
        return x.best(a[0]);
      case "lost":
        return x.lost(a[0]);
      case "stay":
        return x.stay(a[0], a[1]);
      case "logs":
        return x.logs(a[0], a[1]);
      case "wall":
        return x.wall(a[0], a[1]);
      case "straw":
        return x.straw(a[0]);
      case "kindFor":
        return x.kindFor(a[0], a[1]);
      case "round":
        return x.round(a[0]);
      case "takes":
        return x.takes(a[0]);
      case "three":
        return x.three(a[0]);
      case "least":
        return x.least(a[0]);
      case "pace":
        return x.pace();
      case "thrift":
        return x.thrift(a[0]);
      case "middle":
        return x.middle();
      case "calls":
        return x.calls(a[0]);
      default:
        return callTexts(x, act, a);
    }
  }

  private static int callTexts(SledgeStove x, String act, int[] a) {
    switch (act) {
      case "seed":
        return x.seed(a[0]);
      case "feed":
        return x.feed(a[0], a[1]);
      case "wipe":
        return x.wipe();
      case "text":
        return x.text();
      case "image":
        return x.image();
      case "undo":
        return x.undo();
      case "tear":
        return x.tear();
      case "count":
        return x.count(a[0]);
      case "status":
        return x.status(a[0]);
      default:
        return callSheets(x, act, a);
    }
  }

  private static int callSheets(SledgeStove x, String act, int[] a) {
    switch (act) {
      case "hold":
        return x.hold(a[0], a[1]);
      case "as":
        return x.as(a[0], a[1]);
      case "sheet":
        return x.sheet(a[0], a[1], a[2]);
      case "write":
        return x.write(a[0], a[1], a[2]);
      case "copy":
        return x.copy(a[0], a[1], a[2], a[3], a[4]);
      case "load":
        return x.load(a[0]);
      case "rounds":
        return x.rounds(a[0], a[1]);
      case "diary":
        return x.diary(a[0], a[1]);
      case "judge":
        return x.judge(a[0], a[1]);
      default:
        throw new IllegalArgumentException("no act " + act);
    }
  }
}
