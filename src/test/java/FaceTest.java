import java.lang.reflect.Field;
import java.lang.reflect.Member;
import java.lang.reflect.Method;
import java.lang.reflect.Modifier;
import java.util.TreeSet;

/** The face of the class, and acts with any arguments: no call throws, and the village stays within its bounds. */
public final class FaceTest {
  private static final String[] FACE = {"house 1", "of 2", "change 3", "steep 2", "weather 2", "lend 3", "way 2", "send 1",
      "quarters 1", "now 1", "ahead 2", "cold 1", "bake 1", "best 1", "lost 1", "stay 2", "logs 2", "wall 2", "straw 1",
      "kindFor 2", "round 1", "takes 1", "three 1", "least 1", "pace 0", "thrift 1", "middle 0", "calls 1", "seed 1",
      "feed 2", "wipe 0", "text 0", "hold 2", "as 2", "sheet 3", "write 3", "copy 5", "load 1", "rounds 2", "diary 2",
      "judge 2", "image 0", "undo 0", "tear 0", "count 1", "status 1"};
  private static final int[] ODD = {Integer.MIN_VALUE, Integer.MIN_VALUE + 1, -1000001, -2, -1, 0, 1, 2, 3, 4, 5, 6, 7, 8,
      9, 10, 12, 13, 39, 40, 41, 96, 97, 99, 100, 400, 9999, 1 << 24, Integer.MAX_VALUE - 1, Integer.MAX_VALUE};

  private static int z = 1;

  public static void main(String[] args) throws Exception {
    face();
    for (int i = 0; i < 350; i++) {
      anyArguments(i);
    }
    Due.end();
  }

  private static void face() {
    Due.promise("the face");
    TreeSet<String> due = new TreeSet<>();
    for (String method : FACE) {
      due.add(method);
    }
    TreeSet<String> got = new TreeSet<>();
    TreeSet<String> hidden = new TreeSet<>();
    for (Method method : SledgeStove.class.getDeclaredMethods()) {
      if (Modifier.isPublic(method.getModifiers())) {
        got.add(method.getName() + " " + method.getParameterCount());
        Due.is(method.getName() + " answers an int", method.getReturnType() == int.class ? 1 : 0, 1);
        Due.is(method.getName() + " is of the object", method.getModifiers(), Modifier.PUBLIC);
      } else {
        Due.is(method.getName() + " is private", isPrivate(method), 1);
        hidden.add(method.getName());
      }
    }
    Due.is("methods " + got, got.equals(due) ? 1 : 0, 1);
    for (String method : FACE) {
      Due.is("private " + method, hidden.contains(method.substring(0, method.indexOf(' '))) ? 1 : 0, 0);
    }
    for (Field field : SledgeStove.class.getDeclaredFields()) {
      Due.is(field.getName() + " is private", isPrivate(field), 1);
    }
    Due.is("constructors", SledgeStove.class.getDeclaredConstructors().length, 1);
    Due.is("final", SledgeStove.class.getModifiers(), Modifier.PUBLIC | Modifier.FINAL);
    for (Class<?> inside : SledgeStove.class.getDeclaredClasses()) {
      Due.is(inside.getName() + " is static", Modifier.isStatic(inside.getModifiers()) ? 1 : 0, 1);
      Due.is(inside.getName() + " isn't public", Modifier.isPublic(inside.getModifiers()) ? 1 : 0, 0);
    }
  }

  private static int isPrivate(Member member) {
    return Modifier.isPrivate(member.getModifiers()) ? 1 : 0;
  }

  private static int draw(int n) {
    z = z * 1664525 + 1013904223;
    return (z >>> 8) % n;
  }

  /** Acts with small and odd numbers (with the looks at all numbers below 512): each ends, and findings are counted. */
  private static void anyArguments(int run) throws Exception {
    Due.promise("any arguments, run " + run);
    Method[] acts = new Method[FACE.length];
    for (Method method : SledgeStove.class.getDeclaredMethods()) {
      for (int i = 0; i < FACE.length; i++) {
        if (FACE[i].startsWith(method.getName() + " ") && Modifier.isPublic(method.getModifiers())) {
          acts[i] = method;
        }
      }
    }
    SledgeStove x = new SledgeStove();
    int findings = 0;
    for (int i = 0; i < 300; i++) {
      int number = draw(FACE.length + 6);
      Method act = acts[number < FACE.length ? number : 0];
      Object[] given = new Object[act.getParameterCount()];
      for (int k = 0; k < given.length; k++) {
        given[k] = draw(3) == 0 ? ODD[draw(ODD.length)] : draw(draw(3) == 0 ? 50 : 8);
      }
      int answer = (Integer) act.invoke(x, given);
      String name = act.getName();
      boolean free = name.equals("seed") || (name.equals("count") && given[0].equals(6));
      if (answer < -1000000 && !free) {
        findings++;
        Due.is(name + " tells a finding", answer >= -1000007 ? 1 : 0, 1);
      }
      if (i % 100 == 99) {
        sane(x, i);
      }
    }
    Due.is("findings", x.status(-1), findings);
  }

  /** Whatever was done, the village stays within its bounds. */
  private static void sane(SledgeStove x, int behind) {
    int[] low = {0, 0, 1, 0, 0, 0};
    int[] high = {6, 400, 40, 99, 400, 9999};
    int houses = x.count(1);
    within("houses", behind, houses, 0, 8);
    within("quarter", behind, x.now(0), 0, 9999);
    within("bytes", behind, x.count(5), 0, 120);
    within("where", behind, x.now(1), 0, Math.max(0, houses - 1));
    within("quarters yet", behind, x.now(2), 0, 70);
    for (int i = 0; i < houses; i++) {
      for (int what = 0; what < low.length; what++) {
        within("of " + i + " " + what, behind, x.of(i, what), low[what], high[what]);
      }
    }
  }

  private static void within(String name, int behind, int v, int low, int high) {
    Due.is(name + " behind act " + behind + ", not within " + low + " and " + high, v < low || v > high ? 1 : 0, 0);
  }
}
