import java.util.ArrayList;
import java.util.List;
import java.util.regex.Matcher;
import java.util.regex.Pattern;

/** Paragraph 3 of the document's terms once more, to compare with: what a TEXT tells, or where its FAULT is. */
final class PlainText {
  private static final Pattern TOKEN = Pattern.compile(" *([a-z]+|[0-9]+|[^ ]|\\z)");
  private static final List<String> KINDS = List.of("house", "joined", "draughty", "deep", "empty", "proud", "smithy");

  private final List<String> tokens = new ArrayList<>();
  private final List<Integer> places = new ArrayList<>();
  private final PlainVillage village;
  private int next = 0;

  private PlainText(String tape, PlainVillage into) {
    village = into;
    Matcher found = TOKEN.matcher(tape);
    int from = 0;
    while (from <= tape.length() && found.find(from)) {
      tokens.add(found.group(1));
      places.add(found.start(1));
      from = found.end() + (found.group(1).isEmpty() ? 1 : 0);
    }
  }

  /** Tells the village all items of a text: how many they are; with a FAULT (the village is spoilt then) -1 less it. */
  static int read(String tape, PlainVillage into) {
    PlainText text = new PlainText(tape, into);
    int items = 0;
    do {
      if (!text.item()) {
        return -1 - text.places.get(text.next);
      }
      items++;
    } while (text.word(";"));
    return text.tokens.get(text.next).isEmpty() ? items : -1 - text.places.get(text.next);
  }

  /** Goes on if the next token is this one. */
  private boolean word(String token) {
    boolean is = tokens.get(next).equals(token);
    next += is ? 1 : 0;
    return is;
  }

  /** The next token if it is a number up to most, and goes on; else -1. */
  private int number(int least, int most) {
    String token = tokens.get(next);
    if (!token.matches("0*[0-9]{1,3}") || Integer.parseInt(token.replaceFirst("^0+(?=.)", "")) > most
        || Integer.parseInt(token.replaceFirst("^0+(?=.)", "")) < least) {
      return -1;
    }
    next++;
    return Integer.parseInt(token.replaceFirst("^0+(?=.)", ""));
  }

  private boolean item() {
    if (KINDS.contains(tokens.get(next)) && village.houses < 8) {
      village.build(KINDS.indexOf(tokens.get(next)));
      next++;
      int[] row = village.house[village.houses - 1];
      return part(row, "warm", 1, 0, 400) && part(row, "wall", 2, 1, 40) && part(row, "logs", 3, 0, 99)
          && part(row, "bound", 4, 0, 400);
    }
    if (word("steep")) {
      int i = number(0, 6);
      int v = i < 0 ? -1 : number(0, 9);
      if (v >= 0) {
        village.steep[i] = v;
      }
      return v >= 0;
    }
    if (word("out")) {
      village.out = number(0, 100);
      return village.out >= 0;
    }
    if (word("ice")) {
      village.ice = 1;
      return true;
    }
    if (word("thaw")) {
      village.ice = 0;
      return true;
    }
    return false;
  }

  private boolean part(int[] row, String name, int what, int least, int most) {
    if (!word(name)) {
      return true;
    }
    row[what] = number(least, most);
    return row[what] >= 0;
  }
}
