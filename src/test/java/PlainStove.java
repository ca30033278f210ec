import java.util.Arrays;

/**
 * All promises of the document once more, in their plainest form, to compare runs of acts with. What a promise forbids is
 * asked in the order of its words; an act ends at the first finding.
 */
final class PlainStove {
  /** An act that answers a finding. */
  private static final class Finding extends RuntimeException {
    private static final long serialVersionUID = 1;
    private final int answer;

    Finding(int answer) {
      super("finding " + answer, null, false, false);
      this.answer = answer;
    }
  }

  PlainVillage now = new PlainVillage();
  private PlainVillage kept = null;
  /** The numbers of each sheet, null if it is MISSING, and their bits. */
  final int[][] sheets = new int[4][];
  final int[] bits = new int[4];
  final StringBuilder tape = new StringBuilder();
  private final int[] told = new int[7];

  int call(String act, int... a) {
    try {
      return answer(act, a);
    } catch (Finding finding) {
      told[Due.BEYOND - finding.answer]++;
      return finding.answer;
    }
  }

  private static void ask(int finding, boolean isDue) {
    if (isDue) {
      throw new Finding(finding);
    }
  }

  private static int found(int answer) {
    ask(answer, answer == Due.NONE);
    return answer;
  }

  private static void within(int v, int low, int high) {
    ask(Due.BEYOND, v < low || v > high);
  }

  private void isHouse(int house) {
    within(house, 0, now.houses - 1);
  }

  private void ends(int n) {
    ask(Due.STATE, now.quarter + n > 9999);
  }

  private void stands() {
    ask(Due.STATE, now.left > 0);
  }

  private void some() {
    ask(Due.STATE, now.houses == 0);
  }

  private void latest(int quarter) {
    ask(Due.STATE, now.quarter > quarter);
  }

  private int answer(String act, int[] a) {
    switch (act) {
      case "house":
        within(a[0], 0, 6);
        ask(Due.FULL, now.houses == 8);
        now.build(a[0]);
        return now.houses - 1;
      case "of":
        isHouse(a[0]);
        within(a[1], 0, 8);
        int[] made = {now.heats(a[0]), now.loses(a[0]), now.burns(a[0])};
        return a[1] <= 5 ? now.house[a[0]][a[1]] : made[a[1] - 6];
      case "change":
        isHouse(a[0]);
        within(a[1], 0, 4);
        within(a[2], a[1] == 2 ? 1 : 0, new int[] {6, 400, 40, 99, 400}[a[1]]);
        return put(now.house[a[0]], a[1], a[2]);
      case "steep":
        within(a[0], 0, 6);
        within(a[1], 0, 9);
        return put(now.steep, a[0], a[1]);
      case "weather":
        within(a[0], 0, 1);
        within(a[1], 0, a[0] == 0 ? 1 : 100);
        int was = a[0] == 0 ? now.ice : now.out;
        now.ice = a[0] == 0 ? a[1] : now.ice;
        now.out = a[0] == 1 ? a[1] : now.out;
        return was;
      case "lend":
        isHouse(a[0]);
        isHouse(a[1]);
        ask(Due.BEYOND, a[0] == a[1]);
        within(a[2], 1, 99);
        ask(Due.STATE, now.house[a[0]][3] < a[2] || now.house[a[1]][3] + a[2] > 99);
        now.house[a[0]][3] -= a[2];
        now.house[a[1]][3] += a[2];
        return now.house[a[1]][3];
      case "way":
        isHouse(a[0]);
        isHouse(a[1]);
        return now.way(a[0], a[1]);
      default:
        return answerQuarters(act, a);
    }
  }

  private static int put(int[] row, int i, int v) {
    int was = row[i];
    row[i] = v;
    return was;
  }

  private int answerQuarters(String act, int[] a) {
    switch (act) {
      case "send":
        isHouse(a[0]);
        stands();
        return now.send(a[0]);
      case "quarters":
        within(a[0], 1, 96);
        ends(a[0]);
        return now.quarters(a[0]);
      case "now":
        within(a[0], 0, 6);
        return new int[] {now.quarter, now.at, now.left, now.coldSet(), now.burnt, now.ice, now.out}[a[0]];
      case "ahead":
        within(a[0], 0, 96);
        within(a[1], 0, 3 + now.houses);
        ends(a[0]);
        return PlainAhead.ahead(now, a[0], a[1]);
      case "cold":
        isHouse(a[0]);
        latest(9903);
        return found(PlainAhead.cold(now, a[0]));
      case "bake":
        isHouse(a[0]);
        stands();
        latest(9903);
        return found(PlainAhead.bake(now, a[0]));
      default:
        return answerWhereTo(act, a);
    }
  }

  private int answerWhereTo(String act, int[] a) {
    switch (act) {
      case "best":
      case "lost":
        within(a[0], 1, 96);
        stands();
        some();
        ends(a[0]);
        return act.equals("best") ? PlainAhead.best(now, a[0]) : PlainAhead.lost(now, a[0]);
      case "stay":
        isHouse(a[0]);
        within(a[1], 0, 40);
        stands();
        latest(9800);
        return found(PlainAhead.stay(now, a[0], a[1]));
      case "logs":
      case "wall":
        isHouse(a[0]);
        within(a[1], 1, 96);
        ends(a[1]);
        return found(act.equals("logs") ? PlainAhead.leastNumber(now, a[0], 3, 0, 99, a[1])
            : PlainAhead.leastNumber(now, a[0], 2, 1, 40, a[1]));
      case "straw":
        within(a[0], 1, 96);
        some();
        ends(a[0]);
        return PlainAhead.straw(now, a[0]);
      case "kindFor":
        isHouse(a[0]);
        within(a[1], 1, 96);
        ends(a[1]);
        return PlainAhead.kindFor(now, a[0], a[1]);
      default:
        return answerRounds(act, a);
    }
  }

  private void mayGoRound(int latest) {
    stands();
    some();
    latest(latest);
  }

  private int answerRounds(String act, int[] a) {
    switch (act) {
      case "round":
        within(a[0], 1, 12);
        mayGoRound(9700);
        return PlainAhead.whole(now, a[0]).least;
      case "takes":
        within(a[0], 1, 12);
        mayGoRound(9700);
        return PlainAhead.whole(now, a[0]).village.quarter - now.quarter;
      case "three":
        within(a[0], 1, 12);
        mayGoRound(9700);
        return PlainAhead.threes(now, a[0])[0];
      case "least":
        within(a[0], 1, 12);
        mayGoRound(9700);
        return PlainAhead.threes(now, a[0])[1];
      case "pace":
        mayGoRound(9700);
        return PlainAhead.pace(now);
      case "thrift":
        within(a[0], 1, 12);
        mayGoRound(9700);
        return found(PlainAhead.threes(now, a[0])[2]);
      case "middle":
        ask(Due.NONE, now.houses == 0);
        return PlainAhead.middle(now);
      case "calls":
        within(a[0], 1, 12);
        mayGoRound(8500);
        return PlainAhead.calls(now, a[0]);
      case "seed":
        int was = now.z;
        now.z = a[0];
        return was;
      default:
        return answerTexts(act, a);
    }
  }

  private int answerTexts(String act, int[] a) {
    switch (act) {
      case "feed":
        within(a[1], 1, 4);
        ask(Due.FULL, tape.length() + a[1] > 120);
        for (int i = 4 - a[1]; i < 4; i++) {
          tape.append((char) (a[0] << 8 * i >>> 24));
        }
        return tape.length();
      case "wipe":
        int had = tape.length();
        tape.setLength(0);
        return had;
      case "text":
        PlainVillage then = now.copy();
        int items = PlainText.read(tape.toString(), then);
        now = items < 0 ? now : then;
        tape.setLength(0);
        return items;
      case "hold":
        within(a[0], 0, 9);
        within(a[1], -1, now.houses - 1);
        now.spot[a[0]] = a[1];
        return 1;
      case "as":
        within(a[0], 0, 9);
        within(a[1], 0, 6);
        ask(Due.MISSING, now.spot[a[0]] < 0);
        ask(Due.KIND, !now.isA(now.spot[a[0]], a[1]));
        return now.spot[a[0]];
      default:
        return answerSheets(act, a);
    }
  }

  private void isThere(int s) {
    within(s, 0, 3);
    ask(Due.MISSING, sheets[s] == null);
  }

  private static int signed(int bits, int v) {
    return v << 32 - bits >> 32 - bits;
  }

  private int answerSheets(String act, int[] a) {
    switch (act) {
      case "sheet":
        within(a[0], 0, 3);
        ask(Due.BEYOND, a[1] != 0 && a[1] != 8 && a[1] != 16 && a[1] != 32);
        ask(Due.SIZE, a[2] < 0);
        ask(Due.BEYOND, a[2] > 40);
        sheets[a[0]] = a[1] == 0 ? null : new int[a[2]];
        bits[a[0]] = a[1];
        return a[1] == 0 ? 0 : a[2];
      case "write":
        isThere(a[0]);
        within(a[1], 0, sheets[a[0]].length - 1);
        sheets[a[0]][a[1]] = signed(bits[a[0]], a[2]);
        return 1;
      case "copy":
        within(a[0], 0, 3);
        within(a[2], 0, 3);
        isThere(a[0]);
        isThere(a[2]);
        ask(Due.KIND, bits[a[0]] != bits[a[2]]);
        ask(Due.BEYOND, a[1] < 0 || a[3] < 0 || a[4] < 0);
        ask(Due.BEYOND, (long) a[1] + a[4] > sheets[a[0]].length || (long) a[3] + a[4] > sheets[a[2]].length);
        System.arraycopy(sheets[a[0]].clone(), a[1], sheets[a[2]], a[3], a[4]);
        return a[4];
      case "load":
        isThere(a[0]);
        int came = 0;
        while (came < sheets[a[0]].length && came < now.houses && sheets[a[0]][came] >= 0 && sheets[a[0]][came] <= 99) {
          now.house[came][3] = sheets[a[0]][came];
          came++;
        }
        return came;
      case "rounds":
        isThere(a[0]);
        within(a[1], 1, 12);
        ask(Due.STATE, Arrays.stream(sheets[a[0]]).anyMatch(house -> house < 0 || house >= now.houses));
        stands();
        latest(4000);
        return PlainAhead.round(now, a[1], sheets[a[0]]).least;
      case "diary":
        isThere(a[0]);
        within(a[1], 1, 12);
        mayGoRound(9700);
        return PlainAhead.threes(now, a[1], sheets[a[0]])[3];
      case "judge":
        isThere(a[0]);
        isHouse(a[1]);
        ends(sheets[a[0]].length);
        return PlainAhead.judge(now, a[1], sheets[a[0]]);
      default:
        return answerImages(act, a);
    }
  }

  private int answerImages(String act, int[] a) {
    switch (act) {
      case "image":
        kept = now.copy();
        return 1;
      case "undo":
        ask(Due.NONE, kept == null);
        now = kept.copy();
        return now.quarter;
      case "tear":
        int had = kept == null ? 0 : 1;
        kept = null;
        return had;
      case "count":
        within(a[0], 0, 7);
        return new int[] {now.quarter, now.houses, now.sum(3), now.sum(5), now.sum(1), tape.length(), now.z, now.held()}[a[0]];
      case "status":
        within(a[0], -1, 6);
        return a[0] < 0 ? Arrays.stream(told).sum() : told[a[0]];
      default:
        throw new IllegalArgumentException("no act " + act);
    }
  }
}
