import java.lang.reflect.Field;
import java.lang.reflect.Member;
import java.lang.reflect.Method;
import java.lang.reflect.Modifier;
import java.nio.file.Files;
import java.nio.file.Path;
import java.util.TreeSet;
import java.util.regex.Matcher;
import java.util.regex.Pattern;

/** The face of the class and the rules of LANGUAGE.md that can be seen from outside; and acts with any arguments. */
public final class FaceTest {
  private static final String[] FACE = {"house 1", "of 2", "change 3", "steep 2", "weather 2", "lend 3", "way 2", "send 1",
      "quarters 1", "now 1", "ahead 2", "cold 1", "bake 1", "best 1", "lost 1", "stay 2", "logs 2", "wall 2", "straw 1",
      "kindFor 2", "round 1", "takes 1", "three 1", "least 1", "pace 0", "thrift 1", "middle 0", "calls 1", "seed 1",
      "feed 2", "wipe 0", "text 0", "hold 2", "as 2", "sheet 3", "write 3", "copy 5", "load 1", "rounds 2", "diary 2",
      "judge 2", "image 0", "undo 0", "tear 0", "count 1", "status 1"};
  private static final int[] ODD = {Integer.MIN_VALUE, Integer.MIN_VALUE + 1, -1000001, -2, -1, 0, 1, 2, 3, 4, 5, 6, 7, 8,
      9, 10, 12, 13, 39, 40, 41, 96, 97, 99, 100, 400, 9999, 1 << 24, Integer.MAX_VALUE - 1, Integer.MAX_VALUE};

  private static int z = 1;

  public static void main(String[] args) throws Exception {
    face();
    words();
    for (int i = 0; i < 200; i++) {
      anyArguments(i);
    }
    Due.end();
  }

  private static void face() {
    Due.promise("the face");
    TreeSet<String> due = new TreeSet<>();
    for (String method : FACE) {
      due.add(method);
    }
    TreeSet<String> got = new TreeSet<>();
    TreeSet<String> hidden = new TreeSet<>();
    for (Method method : SledgeStove.class.getDeclaredMethods()) {
      if (Modifier.isPublic(method.getModifiers())) {
        got.add(method.getName() + " " + method.getParameterCount());
        Due.is(method.getName() + " answers an int", method.getReturnType() == int.class ? 1 : 0, 1);
        Due.is(method.getName() + " is of the object", method.getModifiers(), Modifier.PUBLIC);
      } else {
        Due.is(method.getName() + " is private", isPrivate(method), 1);
        hidden.add(method.getName());
      }
    }
    Due.is("methods " + got, got.equals(due) ? 1 : 0, 1);
    for (String method : FACE) {
      Due.is("private " + method, hidden.contains(method.substring(0, method.indexOf(' '))) ? 1 : 0, 0);
    }
    for (Field field : SledgeStove.class.getDeclaredFields()) {
      Due.is(field.getName() + " is private", isPrivate(field), 1);
    }
    Due.is("constructors", SledgeStove.class.getDeclaredConstructors().length, 1);
    Due.is("final", SledgeStove.class.getModifiers(), Modifier.PUBLIC | Modifier.FINAL);
    for (Class<?> inside : SledgeStove.class.getDeclaredClasses()) {
      Due.is(inside.getName() + " is static", Modifier.isStatic(inside.getModifiers()) ? 1 : 0, 1);
      Due.is(inside.getName() + " isn't public", Modifier.isPublic(inside.getModifiers()) ? 1 : 0, 0);
    }
  }

  private static int isPrivate(Member member) {
    return Modifier.isPrivate(member.getModifiers()) ? 1 : 0;
  }

  private static void words() throws Exception {
    Due.promise("LANGUAGE.md");
    String source = Files.readString(Path.of("src/main/java/SledgeStove.java"));
    String code = source.replaceAll("(?s)/\\*.*?\\*/", " ").replaceAll("//[^\n]*", " ");
    for (String word : new String[] {"throw", "throws", "try", "catch", "synchronized", "assert", "import", "package",
        "protected", "static \\{", "->", "::", "@", "hashCode", "toString", "Exact", "Random", "System\\.(?!arraycopy)",
        "\" *\\+", "\\+ *\"", "yield", "volatile", "native", "transient"}) {
      Matcher found = Pattern.compile(word.matches("\\w+") ? "\\b" + word + "\\b" : word).matcher(code);
      Due.is(word + " stands there", found.find() ? 1 : 0, 0);
    }
    Due.is("public", code.split("\\bpublic\\b").length - 1, FACE.length + 2);
    Due.is("classes at most 12", code.split("\\bclass\\b").length - 1 <= 12 ? 1 : 0, 1);
    for (char sign : source.toCharArray()) {
      if (sign > 126) {
        Due.is("a sign of the source", sign, 126);
      }
    }
  }

  private static int draw(int n) {
    z = z * 1664525 + 1013904223;
    return (z >>> 8) % n;
  }

  /** 512 acts with small and odd numbers: each ends, and findings are counted. */
  private static void anyArguments(int run) throws Exception {
    Due.promise("any arguments, run " + run);
    Method[] acts = new Method[FACE.length];
    for (Method method : SledgeStove.class.getDeclaredMethods()) {
      for (int i = 0; i < FACE.length; i++) {
        if (FACE[i].startsWith(method.getName() + " ") && Modifier.isPublic(method.getModifiers())) {
          acts[i] = method;
        }
      }
    }
    SledgeStove x = new SledgeStove();
    int findings = 0;
    for (int i = 0; i < 512; i++) {
      int number = draw(FACE.length + 6);
      Method act = acts[number < FACE.length ? number : 0];
      Object[] given = new Object[act.getParameterCount()];
      for (int k = 0; k < given.length; k++) {
        given[k] = draw(3) == 0 ? ODD[draw(ODD.length)] : draw(draw(3) == 0 ? 50 : 8);
      }
      int answer = (Integer) act.invoke(x, given);
      String name = act.getName();
      boolean free = name.equals("seed") || (name.equals("count") && given[0].equals(6));
      if (answer < -1000000 && !free) {
        findings++;
        Due.is(name + " tells a finding", answer >= -1000007 ? 1 : 0, 1);
      }
      sane(x, name);
    }
    Due.is("findings", x.status(-1), findings);
  }

  /** Whatever was done, the village stays within its bounds. */
  private static void sane(SledgeStove x, String act) {
    int houses = x.count(1);
    boolean fine = houses >= 0 && houses <= 8 && x.now(0) >= 0 && x.now(0) <= 9999 && x.count(5) <= 120;
    for (int i = 0; i < houses; i++) {
      fine &= x.of(i, 0) >= 0 && x.of(i, 0) <= 6 && x.of(i, 1) >= 0 && x.of(i, 1) <= 400;
      fine &= x.of(i, 2) >= 1 && x.of(i, 2) <= 40 && x.of(i, 3) >= 0 && x.of(i, 3) <= 99;
      fine &= x.of(i, 4) >= 0 && x.of(i, 4) <= 400 && x.of(i, 5) >= 0 && x.of(i, 5) <= 9999;
    }
    fine &= x.now(1) >= 0 && x.now(1) < Math.max(1, houses) && x.now(2) >= 0 && x.now(2) <= 70;
    if (!fine) {
      Due.is("bounds behind " + act, 0, 1);
    }
  }
}
