/** Counts the answers of one test program that are as due, and tells those that are not. */
final class Due {
  static final int BEYOND = -1000001;
  static final int FULL = -1000002;
  static final int KIND = -1000003;
  static final int NONE = -1000004;
  static final int STATE = -1000005;
  static final int MISSING = -1000006;
  static final int SIZE = -1000007;

  private static int right = 0;
  private static int wrong = 0;
  private static String where = "";

  private Due() {
  }

  static void promise(String name) {
    where = name;
  }

  static void is(String call, long got, long want) {
    if (got == want) {
      right++;
    } else {
      wrong++;
      System.out.println(where + ": " + call + " answered " + got + ", due is " + want);
    }
  }

  static void end() {
    System.out.println(right + " answers as due, " + wrong + " not");
    if (wrong > 0 || right == 0) {
      System.exit(1);
    }
  }

  /** Puts a text on the tape byte by byte: how many bytes there are then. */
  static int tape(SledgeStove x, String text) {
    int had = x.count(5);
    for (int i = 0; i < text.length(); i++) {
      had = x.feed(text.charAt(i), 1);
    }
    return had;
  }

  /** Feeds and reads a text. */
  static int text(SledgeStove x, String text) {
    tape(x, text);
    return x.text();
  }

  /** Lets more quarters go than one call can. */
  static void pass(SledgeStove x, int n) {
    for (int left = n; left > 0; left -= 96) {
      x.quarters(Math.min(96, left));
    }
  }

  /** A village from a text. */
  static SledgeStove village(String... texts) {
    SledgeStove x = new SledgeStove();
    for (String text : texts) {
      if (text(x, text) < 0) {
        is("text " + text, 0, 1);
      }
    }
    return x;
  }
}
