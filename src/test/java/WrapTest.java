/** Numbers that wrap around or lose their highest bits: draws, numbers of sheets, bytes of the tape. */
public final class WrapTest {
  private static final int MIN = Integer.MIN_VALUE;
  private static final int MAX = Integer.MAX_VALUE;

  public static void main(String[] args) {
    draws();
    drawsAtLarge();
    seeds();
    eightBits();
    sixteenBits();
    allBits();
    copies();
    bytesByTheirPlaces();
    everyByte();
    highBitsOfBytes();
    Due.end();
  }

  private static void draws() {
    Due.promise("29 calls: z wraps around");
    SledgeStove x = new SledgeStove();
    for (int i = 0; i < 8; i++) {
      x.house(0);
    }
    x.calls(1);
    Due.is("first z", x.count(6), 1103527590);
    Due.is("4310654 by 8", x.now(1), 6);
    x.calls(1);
    Due.is("second z", x.count(6), -1770082073);
    Due.is("9862832 by 8", x.now(1), 0);
    x.calls(1);
    Due.is("third z", x.count(6), 662824084);
    Due.is("2589156 by 8", x.now(1), 4);
    SledgeStove y = Due.village("house;house;house;house;house;house;house");
    y.calls(1);
    Due.is("4310654 by 7", y.now(1), 5);
    y.calls(1);
    Due.is("9862832 by 7", y.now(1), 0);
    y.calls(1);
    Due.is("2589156 by 7", y.now(1), 2589156 % 7);
  }

  /** By long numbers, of which the lowest 32 bits are kept. */
  private static void drawsAtLarge() {
    Due.promise("29 calls: draws at large");
    int[] seeds = {0, 1, -1, 255, 256, -256, MAX, MIN, MIN + 1, 1 << 30, -1000001, 0x7fffff00, 0x80000100};
    for (int seed : seeds) {
      for (int houses = 1; houses <= 8; houses++) {
        SledgeStove x = new SledgeStove();
        for (int i = 0; i < houses; i++) {
          x.house(0);
          x.steep(Math.min(i, 6), 0);
        }
        x.seed(seed);
        long z = seed & 0xffffffffL;
        for (int i = 0; i < 12; i++) {
          x.calls(1);
          z = z * 1103515245L + 12345L & 0xffffffffL;
          Due.is("z from " + seed, x.count(6) & 0xffffffffL, z);
          Due.is("house from " + seed, x.now(1), z / 256 % houses);
        }
        Due.is("quarters", x.now(0), 24);
        x.seed(seed);
        x.calls(12);
        Due.is("twelve at once", x.count(6) & 0xffffffffL, z);
        Due.is("the last house", x.now(1), z / 256 % houses);
      }
    }
  }

  private static void seeds() {
    Due.promise("30 seed: any int");
    SledgeStove x = new SledgeStove();
    int before = 1;
    for (int seed : new int[] {0, -1, MAX, MIN, Due.BEYOND, Due.SIZE, Due.SIZE - 1, 1}) {
      Due.is("seed " + seed, x.seed(seed), before);
      Due.is("z", x.count(6), seed);
      before = seed;
    }
    Due.is("no findings", x.status(-1), 0);
  }

  private static void eightBits() {
    Due.promise("37 write: 8 bits");
    is(8, 0, 0);
    is(8, 127, 127);
    isNot(8, 128, 128);
    isNot(8, 200, 200);
    isNot(8, 255, 255);
    is(8, 256, 0);
    is(8, 256 + 127, 127);
    isNot(8, 256 + 127, 256 + 127);
    isNot(8, 256 + 128, 128);
    is(8, -128 - 1, 127);
    is(8, -256, 0);
    is(8, -256 + 99, 99);
    is(8, MIN, 0);
    is(8, MIN + 7, 7);
    isNot(8, MAX, 255);
    is(8, MAX - 255 + 5, 5);
    is(8, 0x12345600 + 100, 100);
  }

  private static void sixteenBits() {
    Due.promise("37 write: 16 bits");
    is(16, 127, 127);
    is(16, 128, 128);
    is(16, 255, 255);
    is(16, 256, 256);
    is(16, 397, 397);
    is(16, 65536, 0);
    is(16, 65536 + 397, 397);
    isNot(16, 32768 + 100, 100);
    isNot(16, -1, 255);
    is(16, -65536 + 300, 300);
    is(16, MIN, 0);
    is(16, MIN + 256, 256);
    is(16, 0x12340000 + 300, 300);
  }

  private static void allBits() {
    Due.promise("37 write: 32 bits");
    is(32, 0, 0);
    is(32, 397, 397);
    isNot(32, 256 + 100, 100);
    isNot(32, 65536, 0);
    isNot(32, 65536 + 100, 100);
    isNot(32, MIN, 0);
    isNot(32, MIN + 100, 100);
    isNot(32, MAX, 255);
    isNot(32, -1, 0);
  }

  private static void is(int bits, int v, int due) {
    Due.is(bits + " bits of " + v + " are " + due, isSo(bits, v, due), 0);
  }

  private static void isNot(int bits, int v, int due) {
    Due.is(bits + " bits of " + v + " aren't " + due, isSo(bits, v, due), 1);
  }

  /** 0 if a number of so many bits is the warmth that is due, which a house comes to in one quarter. */
  private static int isSo(int bits, int v, int due) {
    SledgeStove x = Due.village("house logs 0;deep wall 40", "out 100");
    for (int warmth = due; warmth <= 400 && x.ahead(1, 5) != due; warmth++) {
      x.change(1, 1, warmth);
    }
    Due.is("a warmth of " + due, x.ahead(1, 5), due);
    x.sheet(0, bits, 1);
    Due.is("write", x.write(0, 0, v), 1);
    return x.judge(0, 1);
  }

  /** A copy keeps the bits that the number had there. */
  private static void copies() {
    Due.promise("38 copy: bits");
    int[] bits = {8, 16, 32};
    int[] due = {0, 1, 1};
    for (int i = 0; i < bits.length; i++) {
      SledgeStove x = Due.village("house;house warm 100", "out 100");
      x.sheet(0, bits[i], 2);
      x.sheet(3, bits[i], 2);
      x.write(0, 1, 256 + 100);
      Due.is("copy", x.copy(0, 1, 3, 0, 1), 1);
      Due.is("356 as 100 in " + bits[i], x.judge(3, 1), due[i] == 0 ? 2 : 1);
      x.write(3, 1, 100);
      Due.is("356 as 100 in " + bits[i], x.judge(3, 1), due[i]);
    }
  }

  private static void bytesByTheirPlaces() {
    Due.promise("31 feed: the lowest bytes, the highest of these first");
    String text = "ice;thaw;out 77 ";
    for (int n = 1; n <= 4; n++) {
      SledgeStove x = new SledgeStove();
      int fed = 0;
      while (fed < text.length()) {
        int most = Math.min(n, text.length() - fed);
        int bytes = -1;
        for (int i = 0; i < most; i++) {
          bytes = bytes << 8 | text.charAt(fed + i);
        }
        fed += most;
        Due.is("feed " + bytes + " " + most, x.feed(bytes, most), fed);
      }
      Due.is("three items by " + n, x.text(), 3);
      Due.is("out", x.now(6), 77);
    }
  }

  private static void everyByte() {
    Due.promise("33 text: every byte");
    for (int b = 0; b < 256; b++) {
      boolean letter = b >= 'a' && b <= 'z';
      boolean digit = b >= '0' && b <= '9';
      int afterWord = b == ' ' ? 1 : b == ';' ? -1 - 4 : letter ? -1 : -1 - 3;
      int afterNumber = b == ' ' || digit ? 1 : b == ';' ? -1 - 6 : -1 - 5;
      SledgeStove x = new SledgeStove();
      Due.is("alone " + b, with(x, "", b), b == ' ' ? -2 : -1);
      Due.is("behind a word " + b, with(x, "ice", b), afterWord);
      Due.is("behind a number " + b, with(x, "out 1", b), afterNumber);
      Due.is("behind a sign " + b, with(x, "ice;", b), b == ' ' ? -1 - 5 : -1 - 4);
      Due.is("no finding", x.status(-1), 0);
    }
  }

  private static int with(SledgeStove x, String text, int b) {
    Due.tape(x, text);
    x.feed(b, 1);
    return x.text();
  }

  /** Bytes above 127 are no letters, digits or signs without their highest bit. */
  private static void highBitsOfBytes() {
    Due.promise("33 text: the sign of bytes");
    SledgeStove x = new SledgeStove();
    x.feed(0xe9e3e5, 3);
    Due.is("ice with high bits", x.text(), -1);
    x.feed('i' << 24 | 'c' << 16 | 'e' << 8 | 0xbb, 4);
    Due.is("a high ;", x.text(), -1 - 3);
    x.feed('i' << 24 | 'c' << 16 | 'e' << 8 | 0xa0, 4);
    Due.is("a high blank", x.text(), -1 - 3);
    Due.tape(x, "out 1");
    x.feed(0xb1, 1);
    Due.is("a high digit", x.text(), -1 - 5);
    x.feed(MIN, 4);
    Due.is("the least int", x.text(), -1);
    x.feed(MAX, 4);
    Due.is("the greatest int", x.text(), -1);
    x.feed(MIN + ' ', 1);
    Due.is("the lowest byte of it", x.text(), -2);
    Due.is("no ice", x.now(5), 0);
  }
}
