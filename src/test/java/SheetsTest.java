/** Promises 34 to 42: spots and sheets. */
public final class SheetsTest {
  private static final int[] NO_SHEETS = {-1, 4, 40, Integer.MAX_VALUE, Integer.MIN_VALUE};

  public static void main(String[] args) {
    hold();
    as();
    sheet();
    write();
    copy();
    load();
    rounds();
    diary();
    judge();
    Due.end();
  }

  private static void hold() {
    Due.promise("34 hold");
    SledgeStove x = Due.village("house;deep");
    Due.is("spot 0", x.hold(0, 1), 1);
    Due.is("spot 9", x.hold(9, 0), 1);
    Due.is("two", x.count(7), 2);
    Due.is("spot 10", x.hold(10, 0), Due.BEYOND);
    Due.is("spot -1", x.hold(-1, 0), Due.BEYOND);
    Due.is("spot -1, nothing", x.hold(-1, -1), Due.BEYOND);
    Due.is("no house", x.hold(0, 2), Due.BEYOND);
    Due.is("house -2", x.hold(0, -2), Due.BEYOND);
    Due.is("it holds yet", x.as(0, 0), 1);
    Due.is("nothing", x.hold(0, -1), 1);
    Due.is("nothing again", x.hold(0, -1), 1);
    Due.is("one", x.count(7), 1);
    Due.is("another one", x.hold(9, 1), 1);
    Due.is("it is that", x.as(9, 0), 1);
  }

  private static void as() {
    Due.promise("35 as");
    String[] kinds = {"0", "01", "02", "013", "024", "05", "056"};
    SledgeStove x = new SledgeStove();
    for (int kind = 0; kind <= 6; kind++) {
      x.house(kind);
      x.hold(kind, kind);
      for (int other = 0; other <= 6; other++) {
        int due = kinds[kind].indexOf((char) ('0' + other)) >= 0 ? kind : Due.KIND;
        Due.is(kind + " as " + other, x.as(kind, other), due);
      }
    }
    Due.is("nothing", x.as(7, 0), Due.MISSING);
    Due.is("spot 10", x.as(10, 0), Due.BEYOND);
    Due.is("spot -1", x.as(-1, 0), Due.BEYOND);
    Due.is("kind 7", x.as(0, 7), Due.BEYOND);
    Due.is("kind -1", x.as(0, -1), Due.BEYOND);
    Due.is("nothing as kind 7", x.as(7, 7), Due.BEYOND);
    x.change(0, 0, 3);
    Due.is("another kind now", x.as(0, 1), 0);
    x.hold(1, -1);
    Due.is("nothing more", x.as(1, 1), Due.MISSING);
  }

  private static void sheet() {
    Due.promise("36 sheet");
    SledgeStove x = new SledgeStove();
    for (int s : NO_SHEETS) {
      Due.is("sheet " + s, x.sheet(s, 8, 1), Due.BEYOND);
      Due.is("sheet " + s + " below 0", x.sheet(s, 8, -1), Due.BEYOND);
    }
    for (int bits : new int[] {-8, 1, 7, 24, 64, Integer.MAX_VALUE}) {
      Due.is("bits " + bits, x.sheet(0, bits, 1), Due.BEYOND);
      Due.is("bits " + bits + " below 0", x.sheet(0, bits, -1), Due.BEYOND);
    }
    for (int bits = 0; bits <= 32; bits += 8) {
      if (bits != 24) {
        Due.is("below 0", x.sheet(0, bits, -1), Due.SIZE);
        Due.is("far below 0", x.sheet(0, bits, Integer.MIN_VALUE), Due.SIZE);
        Due.is("above 40", x.sheet(0, bits, 41), Due.BEYOND);
        Due.is("far above 40", x.sheet(0, bits, Integer.MAX_VALUE), Due.BEYOND);
      }
    }
    Due.is("missing yet", x.load(0), Due.MISSING);
    Due.is("40", x.sheet(0, 8, 40), 40);
    Due.is("0", x.sheet(1, 16, 0), 0);
    Due.is("it is there", x.load(1), 0);
    Due.is("others not", x.load(3), Due.MISSING);
    x.write(0, 1, 7);
    Due.is("anew", x.sheet(0, 32, 2), 2);
    Due.is("missing, 0 of 40", x.sheet(1, 0, 40), 0);
    Due.is("it is", x.load(1), Due.MISSING);
    SledgeStove y = Due.village("house;house;house");
    y.sheet(3, 8, 3);
    y.write(3, 1, 7);
    y.sheet(3, 8, 3);
    Due.is("all are 0", y.load(3), 3);
    Due.is("0", y.of(1, 3), 0);
    y.write(3, 1, 7);
    y.sheet(3, 0, 0);
    y.sheet(3, 8, 3);
    y.load(3);
    Due.is("0 again", y.of(1, 3), 0);
    y.write(3, 0, 7);
    y.sheet(3, 8, 3);
    y.load(3);
    Due.is("the first, too", y.of(0, 3), 0);
  }

  private static void write() {
    Due.promise("37 write");
    SledgeStove x = Due.village("house warm 0 wall 40", "out 0");
    Due.is("missing", x.write(0, 0, 0), Due.MISSING);
    for (int s : NO_SHEETS) {
      Due.is("sheet " + s, x.write(s, 0, 0), Due.BEYOND);
    }
    x.sheet(2, 8, 3);
    Due.is("number 2", x.write(2, 2, 5), 1);
    Due.is("number 3", x.write(2, 3, 5), Due.BEYOND);
    Due.is("number -1", x.write(2, -1, 5), Due.BEYOND);
    Due.is("number far", x.write(2, Integer.MAX_VALUE, 5), Due.BEYOND);
    x.sheet(2, 8, 0);
    Due.is("none at all", x.write(2, 0, 5), Due.BEYOND);
    bits(8, 99, 99);
    bits(8, 256 + 98, 98);
    bits(8, 0x7fffff05, 5);
    bits(8, 255, -1);
    bits(8, 128, -1);
    bits(8, -1, -1);
    bits(16, 65536 + 98, 98);
    bits(16, 256 + 98, -1);
    bits(16, 65535, -1);
    bits(32, 65536 + 98, -1);
    bits(32, 97, 97);
    bits(32, Integer.MIN_VALUE, -1);
  }

  /** What a number of so many bits is as LOGS, or -1. */
  private static void bits(int bits, int v, int due) {
    SledgeStove x = Due.village("house");
    x.sheet(0, bits, 1);
    x.write(0, 0, v);
    Due.is("bits " + bits + " of " + v, x.load(0) == 1 ? x.of(0, 3) : -1, due);
  }

  private static void copy() {
    Due.promise("38 copy");
    SledgeStove x = new SledgeStove();
    for (int i = 0; i < 8; i++) {
      x.house(0);
    }
    for (int s : NO_SHEETS) {
      Due.is("from sheet " + s, x.copy(s, 0, 0, 0, 0), Due.BEYOND);
      Due.is("to sheet " + s, x.copy(0, 0, s, 0, 0), Due.BEYOND);
    }
    row(x, 0, 8, 8);
    Due.is("to a missing one", x.copy(0, 0, 1, 0, 0), Due.MISSING);
    Due.is("from a missing one", x.copy(1, 0, 0, 0, 0), Due.MISSING);
    Due.is("both missing", x.copy(1, -1, 2, 0, 0), Due.MISSING);
    x.sheet(1, 16, 4);
    Due.is("other bits", x.copy(0, 0, 1, 0, 1), Due.KIND);
    Due.is("other bits, wrong", x.copy(0, -1, 1, 0, 99), Due.KIND);
    x.sheet(1, 8, 4);
    Due.is("too many there", x.copy(0, 0, 1, 0, 5), Due.BEYOND);
    Due.is("too many here", x.copy(1, 0, 0, 0, 5), Due.BEYOND);
    Due.is("too far there", x.copy(0, 0, 1, 3, 2), Due.BEYOND);
    Due.is("too far here", x.copy(0, 7, 1, 0, 2), Due.BEYOND);
    Due.is("from -1", x.copy(0, -1, 1, 0, 1), Due.BEYOND);
    Due.is("to -1", x.copy(0, 0, 1, -1, 1), Due.BEYOND);
    Due.is("n -1", x.copy(0, 0, 1, 0, -1), Due.BEYOND);
    Due.is("far from", x.copy(0, Integer.MAX_VALUE, 1, 0, 1), Due.BEYOND);
    Due.is("far to", x.copy(0, 0, 1, Integer.MAX_VALUE, 1), Due.BEYOND);
    Due.is("far n", x.copy(0, 1, 1, 0, Integer.MAX_VALUE), Due.BEYOND);
    Due.is("least n", x.copy(0, 0, 1, 0, Integer.MIN_VALUE), Due.BEYOND);
    Due.is("nothing changes", seen(x, 1), 0);
    Due.is("none", x.copy(0, 8, 1, 4, 0), 0);
    Due.is("two", x.copy(0, 2, 1, 1, 2), 2);
    Due.is("they came", seen(x, 1), 340);
    Due.is("all", x.copy(0, 4, 1, 0, 4), 4);
    Due.is("they came", seen(x, 1), 5678);
    Due.is("on, over itself", x.copy(0, 0, 0, 2, 6), 6);
    Due.is("as they were", seen(x, 0), 12123456);
    row(x, 0, 8, 8);
    Due.is("back, over itself", x.copy(0, 2, 0, 0, 6), 6);
    Due.is("as they were", seen(x, 0), 34567878);
    Due.is("where it is", x.copy(0, 1, 0, 1, 3), 3);
    Due.is("as it was", seen(x, 0), 34567878);
    row(x, 2, 32, 3);
    row(x, 3, 32, 3);
    x.write(2, 1, 70000);
    Due.is("32 bits", x.copy(2, 1, 3, 0, 2), 2);
    x.write(3, 0, 8);
    Due.is("they came", seen(x, 3), 833);
  }

  private static void row(SledgeStove x, int s, int bits, int n) {
    x.sheet(s, bits, n);
    for (int i = 0; i < n; i++) {
      x.write(s, i, i + 1);
    }
  }

  /** The numbers of a sheet (0 to 9), one digit each. */
  private static long seen(SledgeStove x, int s) {
    long all = 0;
    int n = x.load(s);
    for (int i = 0; i < n; i++) {
      all = 10 * all + x.of(i, 3);
    }
    return all;
  }

  private static void load() {
    Due.promise("39 load");
    SledgeStove x = Due.village("house;smithy;empty");
    Due.is("missing", x.load(0), Due.MISSING);
    for (int s : NO_SHEETS) {
      Due.is("sheet " + s, x.load(s), Due.BEYOND);
    }
    x.sheet(0, 8, 2);
    x.write(0, 0, 99);
    Due.is("two", x.load(0), 2);
    Due.is("99", x.of(0, 3), 99);
    Due.is("0", x.of(1, 3), 0);
    Due.is("the third has what it had", x.of(2, 3), 8);
    x.sheet(1, 8, 5);
    x.write(1, 0, 1);
    x.write(1, 1, 2);
    x.write(1, 2, 3);
    Due.is("no more houses", x.load(1), 3);
    Due.is("logs", x.count(2), 6);
    x.write(1, 0, 50);
    x.write(1, 1, 100);
    Due.is("100", x.load(1), 1);
    Due.is("logs", x.count(2), 55);
    x.write(1, 1, -1);
    Due.is("-1", x.load(1), 1);
    x.write(1, 0, -1);
    Due.is("-1 first", x.load(1), 0);
    Due.is("without houses", without(), 0);
  }

  private static int without() {
    SledgeStove x = new SledgeStove();
    x.sheet(0, 8, 4);
    return x.load(0);
  }

  private static void rounds() {
    Due.promise("40 rounds");
    SledgeStove x = Due.village("house wall 40;house wall 40;house wall 40");
    Due.is("missing", x.rounds(0, 13), Due.MISSING);
    for (int s : NO_SHEETS) {
      Due.is("sheet " + s, x.rounds(s, 13), Due.BEYOND);
    }
    x.sheet(0, 16, 3);
    for (int stay : new int[] {0, -1, 13, Integer.MAX_VALUE}) {
      Due.is("stay " + stay, x.rounds(0, stay), Due.BEYOND);
    }
    x.write(0, 1, 1);
    x.write(0, 2, 2);
    Due.is("as round()", x.rounds(0, 3), x.round(3));
    x.write(0, 2, 3);
    Due.is("no house", x.rounds(0, 3), Due.STATE);
    Due.is("no house, no stay", x.rounds(0, 0), Due.BEYOND);
    x.write(0, 2, -1);
    Due.is("house -1", x.rounds(0, 3), Due.STATE);
    x.sheet(1, 8, 0);
    Due.is("none", x.rounds(1, 3), 400);
    x.send(1);
    Due.is("on its way", x.rounds(1, 3), Due.STATE);
    SledgeStove y = Due.village("empty;house warm 300 wall 40 logs 99");
    y.sheet(0, 8, 40);
    Due.is("forty at one", y.rounds(0, 12), 59);
    for (int i = 0; i < 40; i++) {
      y.write(0, i, 1);
    }
    Due.is("forty at the other", y.rounds(0, 1), 293);
    SledgeStove none = new SledgeStove();
    none.sheet(0, 8, 0);
    Due.is("without houses", none.rounds(0, 1), 400);
    none.sheet(0, 8, 1);
    Due.is("without houses, one", none.rounds(0, 1), Due.STATE);
    SledgeStove late = Due.village("empty");
    late.sheet(0, 8, 1);
    Due.pass(late, 4000);
    Due.is("4000", late.rounds(0, 1), 400);
    late.quarters(1);
    Due.is("4001", late.rounds(0, 1), Due.STATE);
  }

  private static void diary() {
    Due.promise("41 diary");
    SledgeStove x = Due.village("house warm 300 wall 40 logs 99;house warm 300 wall 40 logs 99", "steep 0 0");
    Due.is("missing", x.diary(0, 13), Due.MISSING);
    for (int s : NO_SHEETS) {
      Due.is("sheet " + s, x.diary(s, 13), Due.BEYOND);
    }
    x.sheet(0, 8, 2);
    for (int stay : new int[] {0, -1, 13, Integer.MAX_VALUE}) {
      Due.is("stay " + stay, x.diary(0, stay), Due.BEYOND);
    }
    Due.is("none", x.diary(0, 1), 0);
    told(x, 3, 0, 1);
    told(x, 2, 1, 3);
    told(x, 1, 2, 3);
    told(x, 0, 3, 1);
    told(x, 1, 1, 0);
    x.sheet(0, 8, 1);
    x.write(0, 0, 1);
    Due.is("as far as the sheet", x.diary(0, 1), 3);
    x.sheet(0, 8, 0);
    Due.is("nothing told", x.diary(0, 1), 8);
    x.sheet(0, 16, 4);
    x.write(0, 0, 4);
    x.write(0, 1, 2);
    x.write(0, 2, 77);
    Due.is("as far as the houses", x.diary(0, 2), 3);
    x.quarters(1);
    x.write(0, 0, 5);
    Due.is("with what was baked before", x.diary(0, 2), 3);
    Due.is("nothing changes", x.now(0), 1);
    x.steep(0, 1);
    x.send(1);
    Due.is("on its way", x.diary(0, 1), Due.STATE);
    SledgeStove none = new SledgeStove();
    none.sheet(0, 8, 0);
    Due.is("no house", none.diary(0, 1), Due.STATE);
    SledgeStove late = Due.village("house logs 0");
    late.sheet(0, 8, 1);
    Due.pass(late, 9700);
    Due.is("9700", late.diary(0, 1), 1);
    late.quarters(1);
    Due.is("9701", late.diary(0, 1), Due.STATE);
  }

  private static void told(SledgeStove x, int first, int second, int due) {
    x.write(0, 0, first);
    x.write(0, 1, second);
    Due.is(first + " and " + second, x.diary(0, 1), due);
  }

  private static void judge() {
    Due.promise("42 judge");
    SledgeStove x = Due.village("house;house");
    Due.is("missing", x.judge(0, 9), Due.MISSING);
    for (int s : NO_SHEETS) {
      Due.is("sheet " + s, x.judge(s, 0), Due.BEYOND);
    }
    x.sheet(0, 16, 3);
    for (int house : new int[] {-1, 2, 8, Integer.MAX_VALUE}) {
      Due.is("house " + house, x.judge(0, house), Due.BEYOND);
    }
    Due.is("the first", x.judge(0, 0), 1);
    x.write(0, 0, 128);
    Due.is("the second", x.judge(0, 0), 2);
    x.write(0, 1, 154);
    Due.is("the third", x.judge(0, 0), 3);
    x.write(0, 2, 177);
    Due.is("all", x.judge(0, 0), 0);
    Due.is("not of the other", x.judge(0, 1), 1);
    Due.is("nothing changes", x.now(0), 0);
    x.sheet(1, 8, 0);
    Due.is("nothing told", x.judge(1, 1), 0);
    x.sheet(1, 8, 1);
    x.write(1, 0, 92);
    Due.is("92", x.judge(1, 1), 0);
    x.write(1, 0, 128);
    Due.is("8 bits hold no 128", x.judge(1, 0), 1);
    SledgeStove late = Due.village("house");
    late.sheet(0, 8, 2);
    Due.pass(late, 9997);
    Due.is("9997", late.judge(0, 0), 1);
    late.quarters(1);
    Due.is("9998", late.judge(0, 0), Due.STATE);
    Due.is("9998, no house", late.judge(0, 1), Due.BEYOND);
    late.sheet(0, 8, 1);
    late.write(0, 0, 29);
    Due.is("the last", late.judge(0, 0), 0);
  }
}
