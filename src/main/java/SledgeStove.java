/** A hill village with one stove on a sledge, quarter by quarter; README.md tells how to use it. */
public final class SledgeStove {
  private static final int LOW = -1000001;
  private static final int BEYOND = 0;
  private static final int FULL = 1;
  private static final int NO_KIND = 2;
  private static final int NONE = 3;
  private static final int STATE = 4;
  private static final int MISSING = 5;
  private static final int SIZE = 6;
  private static final int FINDINGS = 7;

  private static final int HOUSE = 0;
  private static final int JOINED = 1;
  private static final int DRAUGHTY = 2;
  private static final int DEEP = 3;
  private static final int EMPTY = 4;
  private static final int PROUD = 5;
  private static final int SMITHY = 6;
  private static final int LAST_KIND = 6;

  private static final int KIND = 0;
  private static final int WARMTH = 1;
  private static final int WALL = 2;
  private static final int LOGS = 3;
  private static final int BOUND = 4;
  private static final int BREAD = 5;
  private static final int HEATS = 6;
  private static final int LOSES = 7;
  private static final int BURNS = 8;

  private static final int MOST_HOUSES = 8;
  private static final int MOST_WARMTH = 400;
  private static final int MOST_WALL = 40;
  private static final int MOST_LOGS = 99;
  private static final int MOST_OUT = 100;
  private static final int MOST_STEEP = 9;
  private static final int WAYS = 7;
  private static final int LAST_QUARTER = 9999;
  private static final int MOST_AHEAD = 96;
  private static final int PROUD_ENOUGH = 200;
  private static final int BAKING = 180;
  private static final int MOST_STAY = 12;
  private static final int LATEST_ROUND = 9700;
  private static final int NOWHERE = -1;
  private static final int TAPE = 120;
  private static final int SPOTS = 10;
  private static final int SHEETS = 4;
  private static final int SHEET_NUMBERS = 40;
  private static final int MOST_NUMBER = 999;

  private static final int END = 0;
  private static final int WORD = 1;
  private static final int NUMBER = 2;
  private static final int SIGN = 3;
  private static final int OTHER = 4;

  private final Village live = new Village();
  private final Village kept = new Village();
  private final Village first = new Village();
  private final Village second = new Village();
  private final Village third = new Village();
  private final Sheet[] sheets = new Sheet[SHEETS];
  private final int[] told = new int[FINDINGS];
  private final int[] tape = new int[TAPE];
  private final Reader reader = new Reader(tape, first);
  private int tapeLength;
  private boolean isKept;

  public SledgeStove() {
    for (int s = 0; s < sheets.length; s++) {
      sheets[s] = new Sheet();
    }
  }

  // ---- houses, ways

  public int house(int kind) {
    if (!within(kind, HOUSE, LAST_KIND)) {
      return fail(BEYOND);
    }
    if (live.houses >= MOST_HOUSES) {
      return fail(FULL);
    }
    live.build(kind);
    return live.houses - 1;
  }

  public int of(int house, int what) {
    House h = live.get(house);
    if (h == null || !within(what, KIND, BURNS)) {
      return fail(BEYOND);
    }
    switch (what) {
      case BREAD:
        return h.bread;
      case HEATS:
        return h.heats();
      case LOSES:
        return h.loses(live.out);
      case BURNS:
        return h.burns();
      default:
        return h.told(what);
    }
  }

  public int change(int house, int what, int v) {
    House h = live.get(house);
    if (h == null || !within(what, KIND, BOUND) || !within(v, lowest(what), highest(what))) {
      return fail(BEYOND);
    }
    int was = h.told(what);
    h.put(what, v);
    return was;
  }

  public int steep(int i, int v) {
    if (!within(i, 0, WAYS - 1) || !within(v, 0, MOST_STEEP)) {
      return fail(BEYOND);
    }
    int was = live.steepAt(i);
    live.putSteep(i, v);
    return was;
  }

  public int weather(int what, int v) {
    if (what == 0 && within(v, 0, 1)) {
      int was = live.ice;
      live.ice = v;
      return was;
    }
    if (what == 1 && within(v, 0, MOST_OUT)) {
      int was = live.out;
      live.out = v;
      return was;
    }
    return fail(BEYOND);
  }

  public int lend(int from, int to, int v) {
    House giver = live.get(from);
    House taker = live.get(to);
    if (giver == null || taker == null || from == to || !within(v, 1, MOST_LOGS)) {
      return fail(BEYOND);
    }
    if (giver.logs < v || taker.logs + v > MOST_LOGS) {
      return fail(STATE);
    }
    giver.logs -= v;
    taker.logs += v;
    return taker.logs;
  }

  public int way(int from, int to) {
    if (live.get(from) == null || live.get(to) == null) {
      return fail(BEYOND);
    }
    return live.between(from, to);
  }

  // ---- quarters

  public int send(int house) {
    if (live.get(house) == null) {
      return fail(BEYOND);
    }
    if (live.left > 0) {
      return fail(STATE);
    }
    return live.go(house);
  }

  public int quarters(int n) {
    if (!within(n, 1, MOST_AHEAD)) {
      return fail(BEYOND);
    }
    if (endsTooLate(n)) {
      return fail(STATE);
    }
    int before = live.sum(BREAD);
    live.pass(n);
    return live.sum(BREAD) - before;
  }

  public int now(int what) {
    switch (what) {
      case 0:
        return live.quarter;
      case 1:
        return live.at;
      case 2:
        return live.left;
      case 3:
        return live.coldSet();
      case 4:
        return live.burnt;
      case 5:
        return live.ice;
      case 6:
        return live.out;
      default:
        return fail(BEYOND);
    }
  }

  public int ahead(int n, int what) {
    if (!within(n, 0, MOST_AHEAD) || what < 0 || (what >= 4 && live.get(what - 4) == null)) {
      return fail(BEYOND);
    }
    if (endsTooLate(n)) {
      return fail(STATE);
    }
    Village then = trial();
    then.pass(n);
    switch (what) {
      case 0:
        return then.coldSet();
      case 1:
        return then.leastWarmth();
      case 2:
        return then.burnt - live.burnt;
      case 3:
        return then.sum(BREAD) - live.sum(BREAD);
      default:
        House h = then.get(what - 4);
        return h == null ? 0 : h.warmth;
    }
  }

  public int cold(int house) {
    if (live.get(house) == null) {
      return fail(BEYOND);
    }
    if (endsTooLate(MOST_AHEAD)) {
      return fail(STATE);
    }
    Village then = trial();
    for (int n = 0; n <= MOST_AHEAD; n++) {
      if (then.isCold(house)) {
        return n;
      }
      then.pass(1);
    }
    return fail(NONE);
  }

  public int bake(int house) {
    House h = live.get(house);
    if (h == null) {
      return fail(BEYOND);
    }
    if (cannotStart(LAST_QUARTER - MOST_AHEAD)) {
      return fail(STATE);
    }
    Village then = trial();
    then.go(house);
    House baker = then.get(house);
    for (int n = 0; n <= MOST_AHEAD; n++) {
      if (baker != null && baker.bread > h.bread) {
        return n;
      }
      then.pass(1);
    }
    return fail(NONE);
  }

  // ---- where to, how long

  public int best(int n) {
    if (!within(n, 1, MOST_AHEAD)) {
      return fail(BEYOND);
    }
    if (cannotStart(LAST_QUARTER - n)) {
      return fail(STATE);
    }
    int found = 0;
    int most = -1;
    for (int i = 0; i < live.houses; i++) {
      int least = sentTo(i, n).leastWarmth();
      if (least > most) {
        most = least;
        found = i;
      }
    }
    return found;
  }

  public int lost(int n) {
    if (!within(n, 1, MOST_AHEAD)) {
      return fail(BEYOND);
    }
    if (cannotStart(LAST_QUARTER - n)) {
      return fail(STATE);
    }
    int all = -1;
    for (int i = 0; i < live.houses; i++) {
      all &= sentTo(i, n).coldSet();
    }
    return all;
  }

  public int stay(int house, int n) {
    if (live.get(house) == null || !within(n, 0, 40)) {
      return fail(BEYOND);
    }
    if (cannotStart(9800)) {
      return fail(STATE);
    }
    Village there = trial();
    there.pass(there.go(house));
    for (int k = 0; k <= 48; k++) {
      second.be(there);
      second.at = NOWHERE;
      second.pass(n);
      if (!second.isCold(house)) {
        return k;
      }
      there.pass(1);
    }
    return fail(NONE);
  }

  public int logs(int house, int n) {
    return leastValue(house, n, LOGS);
  }

  public int wall(int house, int n) {
    return leastValue(house, n, WALL);
  }

  public int straw(int n) {
    if (!within(n, 1, MOST_AHEAD)) {
      return fail(BEYOND);
    }
    if (live.houses == 0 || endsTooLate(n)) {
      return fail(STATE);
    }
    int found = 0;
    int most = -1;
    for (int i = 0; i < live.houses; i++) {
      Village then = trial();
      House h = then.get(i);
      if (h != null) {
        h.wall = Math.min(MOST_WALL, h.wall + 5);
      }
      then.pass(n);
      int least = then.leastWarmth();
      if (least > most) {
        most = least;
        found = i;
      }
    }
    return found;
  }

  public int kindFor(int house, int n) {
    if (live.get(house) == null || !within(n, 1, MOST_AHEAD)) {
      return fail(BEYOND);
    }
    if (endsTooLate(n)) {
      return fail(STATE);
    }
    int found = 0;
    int most = -1;
    for (int kind = HOUSE; kind <= LAST_KIND; kind++) {
      House h = changed(house, KIND, kind, n);
      if (h != null && h.warmth > most) {
        most = h.warmth;
        found = kind;
      }
    }
    return found;
  }

  // ---- rounds

  public int round(int stay) {
    int finding = roundFinding(stay);
    if (finding >= 0) {
      return fail(finding);
    }
    return wholeRound(stay).least;
  }

  public int takes(int stay) {
    int finding = roundFinding(stay);
    if (finding >= 0) {
      return fail(finding);
    }
    return wholeRound(stay).quarter - live.quarter;
  }

  public int three(int stay) {
    int finding = roundFinding(stay);
    if (finding >= 0) {
      return fail(finding);
    }
    Warmest wish = new Warmest();
    tryThrees(stay, wish);
    return wish.code;
  }

  public int least(int stay) {
    int finding = roundFinding(stay);
    if (finding >= 0) {
      return fail(finding);
    }
    Warmest wish = new Warmest();
    tryThrees(stay, wish);
    return wish.least;
  }

  public int pace() {
    if (cannotStart(LATEST_ROUND)) {
      return fail(STATE);
    }
    int found = 1;
    int most = -1;
    for (int stay = 1; stay <= MOST_STAY; stay++) {
      int least = wholeRound(stay).least;
      if (least > most) {
        most = least;
        found = stay;
      }
    }
    return found;
  }

  public int thrift(int stay) {
    int finding = roundFinding(stay);
    if (finding >= 0) {
      return fail(finding);
    }
    Thriftiest wish = new Thriftiest();
    tryThrees(stay, wish);
    return wish.code < 0 ? fail(NONE) : wish.code;
  }

  // ---- calls, draws

  public int middle() {
    if (live.houses == 0) {
      return fail(NONE);
    }
    int found = 0;
    int shortest = -1;
    for (int i = 0; i < live.houses; i++) {
      int sum = 0;
      for (int j = 0; j < live.houses; j++) {
        sum += live.between(i, j);
      }
      if (shortest < 0 || sum < shortest) {
        shortest = sum;
        found = i;
      }
    }
    return found;
  }

  public int calls(int n) {
    if (!within(n, 1, 12)) {
      return fail(BEYOND);
    }
    if (cannotStart(8500)) {
      return fail(STATE);
    }
    for (int i = 0; i < n; i++) {
      int house = live.houses > 0 ? live.draw() % live.houses : 0;
      live.pass(live.go(house) + 2);
    }
    return Integer.bitCount(live.coldSet());
  }

  public int seed(int v) {
    int was = live.z;
    live.z = v;
    return was;
  }

  // ---- texts

  public int feed(int bytes, int n) {
    if (!within(n, 1, 4)) {
      return fail(BEYOND);
    }
    if (tapeLength + n > TAPE) {
      return fail(FULL);
    }
    for (int i = n - 1; i >= 0; i--) {
      if (within(tapeLength, 0, tape.length - 1)) {
        tape[tapeLength] = (bytes >>> (8 * i)) & 255;
        tapeLength++;
      }
    }
    return tapeLength;
  }

  public int wipe() {
    int had = tapeLength;
    tapeLength = 0;
    return had;
  }

  public int text() {
    // The reader tells the first trial, so that a text with a fault leaves the village alone.
    first.be(live);
    int items = reader.readAll(wipe());
    if (items > 0) {
      live.be(first);
    }
    return items;
  }

  // ---- spots, sheets

  public int hold(int spot, int house) {
    if (!within(spot, 0, SPOTS - 1) || (house != NOWHERE && live.get(house) == null)) {
      return fail(BEYOND);
    }
    live.putSpot(spot, house);
    return 1;
  }

  public int as(int spot, int kind) {
    if (!within(spot, 0, SPOTS - 1) || !within(kind, HOUSE, LAST_KIND)) {
      return fail(BEYOND);
    }
    int house = live.spotAt(spot);
    House h = live.get(house);
    if (h == null) {
      return fail(MISSING);
    }
    return h.isA(kind) ? house : fail(NO_KIND);
  }

  public int sheet(int s, int bits, int n) {
    Sheet sheet = sheetAt(s);
    if (sheet == null || (bits != 0 && bits != 8 && bits != 16 && bits != 32)) {
      return fail(BEYOND);
    }
    if (n < 0) {
      return fail(SIZE);
    }
    if (n > SHEET_NUMBERS) {
      return fail(BEYOND);
    }
    sheet.begin(bits, bits == 0 ? 0 : n);
    return sheet.length;
  }

  public int write(int s, int i, int v) {
    Sheet sheet = sheetAt(s);
    if (sheet == null) {
      return fail(BEYOND);
    }
    if (sheet.isMissing()) {
      return fail(MISSING);
    }
    if (!within(i, 0, sheet.length - 1)) {
      return fail(BEYOND);
    }
    sheet.put(i, v);
    return 1;
  }

  public int copy(int s, int from, int t, int to, int n) {
    Sheet source = sheetAt(s);
    Sheet target = sheetAt(t);
    if (source == null || target == null) {
      return fail(BEYOND);
    }
    if (source.isMissing() || target.isMissing()) {
      return fail(MISSING);
    }
    if (source.bits != target.bits) {
      return fail(NO_KIND);
    }
    if (!source.has(from, n) || !target.has(to, n)) {
      return fail(BEYOND);
    }
    // On one and the same sheet the order keeps what is still to be read from being overwritten.
    for (int i = 0; i < n; i++) {
      int k = from < to ? n - 1 - i : i;
      target.put(to + k, source.get(from + k));
    }
    return n;
  }

  public int load(int s) {
    Sheet sheet = sheetAt(s);
    if (sheet == null) {
      return fail(BEYOND);
    }
    if (sheet.isMissing()) {
      return fail(MISSING);
    }
    int came = 0;
    for (int i = 0; i < sheet.length; i++) {
      House h = live.get(i);
      int v = sheet.get(i);
      if (h == null || !within(v, 0, MOST_LOGS)) {
        break;
      }
      h.logs = v;
      came++;
    }
    return came;
  }

  public int rounds(int s, int stay) {
    Sheet sheet = sheetAt(s);
    if (sheet == null) {
      return fail(BEYOND);
    }
    if (sheet.isMissing()) {
      return fail(MISSING);
    }
    if (!within(stay, 1, MOST_STAY)) {
      return fail(BEYOND);
    }
    if (!tellsHouses(sheet) || live.left > 0 || live.quarter > 4000) {
      return fail(STATE);
    }
    first.beginRound(live);
    for (int i = 0; i < sheet.length; i++) {
      first.leg(sheet.get(i), stay);
    }
    return first.least;
  }

  public int diary(int s, int stay) {
    Sheet sheet = sheetAt(s);
    if (sheet == null) {
      return fail(BEYOND);
    }
    if (sheet.isMissing()) {
      return fail(MISSING);
    }
    int finding = roundFinding(stay);
    if (finding >= 0) {
      return fail(finding);
    }
    Diary wish = new Diary(sheet);
    tryThrees(stay, wish);
    return wish.fitting;
  }

  public int judge(int s, int house) {
    Sheet sheet = sheetAt(s);
    if (sheet == null) {
      return fail(BEYOND);
    }
    if (sheet.isMissing()) {
      return fail(MISSING);
    }
    if (live.get(house) == null) {
      return fail(BEYOND);
    }
    if (endsTooLate(sheet.length)) {
      return fail(STATE);
    }
    Village then = trial();
    House h = then.get(house);
    for (int i = 0; i < sheet.length; i++) {
      then.pass(1);
      if (h == null || h.warmth != sheet.get(i)) {
        return 1 + i;
      }
    }
    return 0;
  }

  // ---- images

  public int image() {
    kept.be(live);
    isKept = true;
    return 1;
  }

  public int undo() {
    if (!isKept) {
      return fail(NONE);
    }
    live.be(kept);
    return live.quarter;
  }

  public int tear() {
    int had = isKept ? 1 : 0;
    isKept = false;
    return had;
  }

  public int count(int what) {
    switch (what) {
      case 0:
        return live.quarter;
      case 1:
        return live.houses;
      case 2:
        return live.sum(LOGS);
      case 3:
        return live.sum(BREAD);
      case 4:
        return live.sum(WARMTH);
      case 5:
        return tapeLength;
      case 6:
        return live.z;
      case 7:
        return live.spotsHeld();
      default:
        return fail(BEYOND);
    }
  }

  public int status(int which) {
    if (within(which, 0, told.length - 1)) {
      return told[which];
    }
    if (which != -1) {
      return fail(BEYOND);
    }
    int all = 0;
    for (int finding = 0; finding < told.length; finding++) {
      all += told[finding];
    }
    return all;
  }

  // ---- what the acts share

  private static boolean within(int v, int low, int high) {
    return v >= low && v <= high;
  }

  private static int lowest(int what) {
    return what == WALL ? 1 : 0;
  }

  private static int highest(int what) {
    switch (what) {
      case KIND:
        return LAST_KIND;
      case WALL:
        return MOST_WALL;
      case LOGS:
        return MOST_LOGS;
      default:
        return MOST_WARMTH;
    }
  }

  private int fail(int finding) {
    if (within(finding, 0, told.length - 1)) {
      told[finding]++;
    }
    return LOW - finding;
  }

  private boolean endsTooLate(int n) {
    return live.quarter > LAST_QUARTER - n;
  }

  private boolean cannotStart(int latest) {
    return live.left > 0 || live.houses == 0 || live.quarter > latest;
  }

  /** What round(), takes() and their like find against a STAY, or -1. */
  private int roundFinding(int stay) {
    if (!within(stay, 1, MOST_STAY)) {
      return BEYOND;
    }
    return cannotStart(LATEST_ROUND) ? STATE : -1;
  }

  /** The village as it is now, to go on with as a trial until the next one begins. */
  private Village trial() {
    first.be(live);
    return first;
  }

  private Village sentTo(int house, int n) {
    Village then = trial();
    then.go(house);
    then.pass(n);
    return then;
  }

  /** A house behind n quarters of a trial that begins with one number of it changed. */
  private House changed(int house, int what, int v, int n) {
    Village then = trial();
    House h = then.get(house);
    if (h != null) {
      h.put(what, v);
    }
    then.pass(n);
    return h;
  }

  private int leastValue(int house, int n, int what) {
    if (live.get(house) == null || !within(n, 1, MOST_AHEAD)) {
      return fail(BEYOND);
    }
    if (endsTooLate(n)) {
      return fail(STATE);
    }
    for (int v = lowest(what); v <= highest(what); v++) {
      House h = changed(house, what, v, n);
      if (h != null && !h.isCold()) {
        return v;
      }
    }
    return fail(NONE);
  }

  private Village wholeRound(int stay) {
    first.beginRound(live);
    for (int i = 0; i < live.houses; i++) {
      first.leg(i, stay);
    }
    return first;
  }

  /** Shows a wish all rounds of three houses by numbers, but for those whose begin it gives up. */
  private void tryThrees(int stay, Wish wish) {
    int houses = live.houses;
    for (int a = 0; a < houses; a++) {
      first.beginRound(live);
      first.leg(a, stay);
      for (int b = 0; b < houses && !wish.givesUp(first); b++) {
        second.be(first);
        second.leg(b, stay);
        for (int c = 0; c < houses && !wish.givesUp(second); c++) {
          third.be(second);
          third.leg(c, stay);
          wish.look(third, 100 * a + 10 * b + c);
        }
      }
    }
  }

  private Sheet sheetAt(int s) {
    return within(s, 0, sheets.length - 1) ? sheets[s] : null;
  }

  private boolean tellsHouses(Sheet sheet) {
    for (int i = 0; i < sheet.length; i++) {
      if (live.get(sheet.get(i)) == null) {
        return false;
      }
    }
    return true;
  }

  /** A house with its numbers, and what its kind makes of them. */
  private static final class House {
    private int kind;
    private int warmth;
    private int wall;
    private int logs;
    private int bound;
    private int bread;

    void begin(int newKind) {
      kind = newKind;
      warmth = 100;
      wall = 10;
      logs = 8;
      bound = 60;
      bread = 0;
    }

    void be(House other) {
      kind = other.kind;
      warmth = other.warmth;
      wall = other.wall;
      logs = other.logs;
      bound = other.bound;
      bread = other.bread;
    }

    int told(int what) {
      switch (what) {
        case KIND:
          return kind;
        case WARMTH:
          return warmth;
        case WALL:
          return wall;
        case LOGS:
          return logs;
        case BOUND:
          return bound;
        default:
          return bread;
      }
    }

    void put(int what, int v) {
      switch (what) {
        case KIND:
          kind = v;
          break;
        case WARMTH:
          warmth = v;
          break;
        case WALL:
          wall = v;
          break;
        case LOGS:
          logs = v;
          break;
        case BOUND:
          bound = v;
          break;
        default:
          break;
      }
    }

    /** Whether it is of a kind, or of one under it. */
    boolean isA(int other) {
      switch (other) {
        case HOUSE:
          return true;
        case JOINED:
          return kind == JOINED || kind == DEEP;
        case DRAUGHTY:
          return kind == DRAUGHTY || kind == EMPTY;
        case PROUD:
          return kind == PROUD || kind == SMITHY;
        default:
          return kind == other;
      }
    }

    int heats() {
      int heat = isA(PROUD) && warmth >= PROUD_ENOUGH ? 0 : 40;
      if (kind == DEEP) {
        return heat - 10;
      }
      return kind == SMITHY ? heat + 20 : heat;
    }

    int loses(int out) {
      int loss = wall > 0 && warmth > out ? (warmth - out) / wall : 0;
      if (isA(DRAUGHTY)) {
        return 2 * loss;
      }
      return kind == DEEP ? loss / 2 : loss;
    }

    int burns() {
      if (kind == EMPTY) {
        return 0;
      }
      return kind == SMITHY ? 2 : 1;
    }

    boolean needs() {
      return kind != EMPTY;
    }

    int gets(int heat) {
      return isA(JOINED) ? heat / 4 : 0;
    }

    boolean isCold() {
      return needs() && warmth < bound;
    }

    void warmBy(int heat) {
      warmth = Math.min(MOST_WARMTH, warmth + heat);
    }

    void cool(int out) {
      warmth = Math.max(0, warmth - loses(out));
    }
  }

  /** All that an image keeps: houses, ways, weather, the stove, draws and spots. */
  private static final class Village {
    private final House[] lane = new House[MOST_HOUSES];
    private final int[] steeps = new int[WAYS];
    private final int[] spots = new int[SPOTS];
    private int houses;
    private int ice;
    private int out = 20;
    private int at;
    private int left;
    private int quarter;
    private int burnt;
    private int z = 1;
    private int least = MOST_WARMTH;
    private boolean chilled;

    Village() {
      for (int i = 0; i < lane.length; i++) {
        lane[i] = new House();
      }
      for (int i = 0; i < steeps.length; i++) {
        steeps[i] = 1;
      }
      for (int i = 0; i < spots.length; i++) {
        spots[i] = NOWHERE;
      }
    }

    void be(Village other) {
      houses = other.houses;
      for (int i = 0; i < houses; i++) {
        House mine = get(i);
        House its = other.get(i);
        if (mine != null && its != null) {
          mine.be(its);
        }
      }
      System.arraycopy(other.steeps, 0, steeps, 0, WAYS);
      System.arraycopy(other.spots, 0, spots, 0, SPOTS);
      ice = other.ice;
      out = other.out;
      at = other.at;
      left = other.left;
      quarter = other.quarter;
      burnt = other.burnt;
      z = other.z;
      least = other.least;
      chilled = other.chilled;
    }

    /** A house that stands, or null. */
    House get(int i) {
      return i >= 0 && i < houses && i < lane.length ? lane[i] : null;
    }

    /** A new house behind all others; null if there is no room. */
    House build(int kind) {
      if (houses >= lane.length) {
        return null;
      }
      houses++;
      House h = get(houses - 1);
      if (h != null) {
        h.begin(kind);
      }
      return h;
    }

    int steepAt(int i) {
      return i >= 0 && i < steeps.length ? steeps[i] : 0;
    }

    void putSteep(int i, int v) {
      if (i >= 0 && i < steeps.length) {
        steeps[i] = v;
      }
    }

    int spotAt(int spot) {
      return spot >= 0 && spot < spots.length ? spots[spot] : NOWHERE;
    }

    void putSpot(int spot, int house) {
      if (spot >= 0 && spot < spots.length) {
        spots[spot] = house;
      }
    }

    int spotsHeld() {
      int held = 0;
      for (int spot = 0; spot < spots.length; spot++) {
        if (spots[spot] != NOWHERE) {
          held++;
        }
      }
      return held;
    }

    int between(int from, int to) {
      int sum = 0;
      int high = Math.max(from, to);
      for (int i = Math.min(from, to); i < high; i++) {
        sum += steepAt(i) + ice;
      }
      return sum;
    }

    /** Sends the stove: how many quarters it takes. */
    int go(int house) {
      left = between(at, house);
      at = house;
      return left;
    }

    void pass(int n) {
      for (int i = 0; i < n; i++) {
        passOne();
      }
    }

    void passOne() {
      House warm = stoveHouse();
      if (warm != null) {
        burnAt(warm);
      }
      for (int i = 0; i < houses; i++) {
        House h = get(i);
        if (h != null) {
          h.cool(out);
        }
      }
      if (warm != null && warm.warmth >= BAKING) {
        warm.bread++;
      }
      if (left > 0) {
        left--;
      }
      quarter++;
    }

    /** The house that the stove heats in this quarter, or null. */
    House stoveHouse() {
      House h = left == 0 ? get(at) : null;
      return h != null && h.logs >= h.burns() ? h : null;
    }

    void burnAt(House warm) {
      // What it heats is asked before it gets warmer: a proud one would else heat less.
      int heat = warm.heats();
      warm.logs -= warm.burns();
      burnt += warm.burns();
      warm.warmBy(heat);
      House before = get(at - 1);
      if (before != null) {
        before.warmBy(before.gets(heat));
      }
      House behind = get(at + 1);
      if (behind != null) {
        behind.warmBy(behind.gets(heat));
      }
    }

    boolean isCold(int house) {
      House h = get(house);
      return h != null && h.isCold();
    }

    int coldSet() {
      int set = 0;
      for (int i = 0; i < houses; i++) {
        if (isCold(i)) {
          set |= 1 << i;
        }
      }
      return set;
    }

    int leastWarmth() {
      int lowest = MOST_WARMTH;
      for (int i = 0; i < houses; i++) {
        House h = get(i);
        if (h != null && h.needs()) {
          lowest = Math.min(lowest, h.warmth);
        }
      }
      return lowest;
    }

    int sum(int what) {
      int sum = 0;
      for (int i = 0; i < houses; i++) {
        House h = get(i);
        if (h != null) {
          sum += h.told(what);
        }
      }
      return sum;
    }

    void beginRound(Village other) {
      be(other);
      least = MOST_WARMTH;
      chilled = false;
    }

    /** One house of a round: the way there and the stay, looked at as each quarter ends. */
    void leg(int house, int stay) {
      int n = go(house) + stay;
      for (int i = 0; i < n; i++) {
        passOne();
        watch();
      }
    }

    void watch() {
      for (int i = 0; i < houses; i++) {
        House h = get(i);
        if (h != null && h.needs()) {
          least = Math.min(least, h.warmth);
          chilled = chilled || h.isCold();
        }
      }
    }

    int draw() {
      z = z * 1103515245 + 12345;
      return z >>> 8;
    }
  }

  /** A row of numbers of 8, 16 or 32 bits; with 0 bits it is missing. */
  private static final class Sheet {
    private final int[] numbers = new int[SHEET_NUMBERS];
    private int bits;
    private int length;

    void begin(int newBits, int newLength) {
      bits = newBits;
      length = newLength;
      for (int i = 0; i < numbers.length; i++) {
        numbers[i] = 0;
      }
    }

    boolean isMissing() {
      return bits == 0;
    }

    boolean has(int from, int n) {
      return from >= 0 && n >= 0 && n <= length && from <= length - n;
    }

    int get(int i) {
      return i >= 0 && i < numbers.length ? numbers[i] : 0;
    }

    void put(int i, int v) {
      if (i >= 0 && i < numbers.length) {
        numbers[i] = cut(v);
      }
    }

    int cut(int v) {
      if (bits == 8) {
        return (byte) v;
      }
      return bits == 16 ? (short) v : v;
    }
  }

  /** Reads a text token by token; the token that is looked at is always one ahead. */
  private static final class Reader {
    private final int[] bytes;
    private final Village village;
    private int length;
    private int pos;
    private int start;
    private int token;
    private int value;

    Reader(int[] tape, Village into) {
      bytes = tape;
      village = into;
    }

    /** How many items there are, all told to the village; with a fault -1 less its place. */
    int readAll(int tapeLength) {
      length = tapeLength;
      pos = 0;
      for (int items = 1; items <= TAPE; items++) {
        next();
        if (!readItem()) {
          return -1 - start;
        }
        if (token == END) {
          return items;
        }
        if (token != SIGN) {
          return -1 - start;
        }
      }
      return -1 - start;
    }

    boolean readItem() {
      int kind = kindTold();
      if (kind >= 0) {
        return readHouse(kind);
      }
      if (isWord("steep")) {
        return readSteep();
      }
      if (isWord("out")) {
        next();
        return readOut();
      }
      if (isWord("ice") || isWord("thaw")) {
        village.ice = isWord("ice") ? 1 : 0;
        next();
        return true;
      }
      return false;
    }

    int kindTold() {
      if (isWord("house")) {
        return HOUSE;
      }
      if (isWord("joined")) {
        return JOINED;
      }
      if (isWord("draughty")) {
        return DRAUGHTY;
      }
      if (isWord("deep")) {
        return DEEP;
      }
      if (isWord("empty")) {
        return EMPTY;
      }
      if (isWord("proud")) {
        return PROUD;
      }
      return isWord("smithy") ? SMITHY : -1;
    }

    boolean readHouse(int kind) {
      House h = village.build(kind);
      if (h == null) {
        return false;
      }
      next();
      return readPart(h, "warm", WARMTH)
          && readPart(h, "wall", WALL)
          && readPart(h, "logs", LOGS)
          && readPart(h, "bound", BOUND);
    }

    /** A part that may be left out: its word, then its number. */
    boolean readPart(House h, String word, int what) {
      if (!isWord(word)) {
        return true;
      }
      next();
      if (!isNumber(lowest(what), highest(what))) {
        return false;
      }
      h.put(what, value);
      next();
      return true;
    }

    boolean readSteep() {
      next();
      if (!isNumber(0, WAYS - 1)) {
        return false;
      }
      int i = value;
      next();
      if (!isNumber(0, MOST_STEEP)) {
        return false;
      }
      village.putSteep(i, value);
      next();
      return true;
    }

    boolean readOut() {
      if (!isNumber(0, MOST_OUT)) {
        return false;
      }
      village.out = value;
      next();
      return true;
    }

    boolean isNumber(int low, int high) {
      return token == NUMBER && value >= low && value <= high;
    }

    boolean isWord(String word) {
      if (token != WORD || pos - start != word.length()) {
        return false;
      }
      for (int i = 0; i < word.length(); i++) {
        if (byteAt(start + i) != word.charAt(i)) {
          return false;
        }
      }
      return true;
    }

    int byteAt(int i) {
      return i >= 0 && i < length && i < bytes.length ? bytes[i] : -1;
    }

    boolean isLetter(int b) {
      return b >= 'a' && b <= 'z';
    }

    boolean isDigit(int b) {
      return b >= '0' && b <= '9';
    }

    void next() {
      while (pos < length && byteAt(pos) == ' ') {
        pos++;
      }
      start = pos;
      value = 0;
      if (pos >= length) {
        token = END;
      } else if (isLetter(byteAt(pos))) {
        token = WORD;
        while (pos < length && isLetter(byteAt(pos))) {
          pos++;
        }
      } else if (isDigit(byteAt(pos))) {
        token = NUMBER;
        while (pos < length && isDigit(byteAt(pos))) {
          // However many digits come, the number stays small, and too large if it once was.
          value = Math.min(MOST_NUMBER + 1, 10 * value + byteAt(pos) - '0');
          pos++;
        }
      } else {
        token = byteAt(pos) == ';' ? SIGN : OTHER;
        pos++;
      }
    }
  }

  /** What is looked for among the rounds of three houses. */
  private abstract static class Wish {
    /** Whether no round that begins so can be what is looked for. */
    abstract boolean givesUp(Village begun);

    abstract void look(Village done, int round);
  }

  /** The first round with the greatest least warmth. */
  private static final class Warmest extends Wish {
    private int least = -1;
    private int code;

    boolean givesUp(Village begun) {
      return begun.least <= least;
    }

    void look(Village done, int round) {
      if (done.least > least) {
        least = done.least;
        code = round;
      }
    }
  }

  /** The first round with fewest logs burnt of those in which no house is cold. */
  private static final class Thriftiest extends Wish {
    private int burnt;
    private int code = -1;

    boolean givesUp(Village begun) {
      return begun.chilled || (code >= 0 && begun.burnt >= burnt);
    }

    void look(Village done, int round) {
      if (!givesUp(done)) {
        burnt = done.burnt;
        code = round;
      }
    }
  }

  /** How many rounds leave bread as a sheet tells. */
  private static final class Diary extends Wish {
    private final Sheet sheet;
    private int fitting;

    Diary(Sheet told) {
      sheet = told;
    }

    boolean givesUp(Village begun) {
      return false;
    }

    void look(Village done, int round) {
      int both = Math.min(sheet.length, done.houses);
      for (int i = 0; i < both; i++) {
        House h = done.get(i);
        if (h == null || h.bread != sheet.get(i)) {
          return;
        }
      }
      fitting++;
    }
  }
}
