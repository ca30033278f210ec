import java.lang.reflect.Constructor;
import java.lang.reflect.Field;
import java.lang.reflect.Method;
import java.lang.reflect.Modifier;
import java.nio.file.Files;
import java.nio.file.Path;
import java.util.ArrayList;
import java.util.List;
import java.util.Set;
import java.util.TreeSet;
import java.util.regex.Matcher;
import java.util.regex.Pattern;

/** Rules of LANGUAGE.md, as far as they can be seen in the source and in the classes that are made of it. */
public final class LanguageTest {
  private static final Set<String> LIBRARY = Set.of("Math.min", "Math.max", "Integer.bitCount", "System.arraycopy");
  private static final Set<Class<?>> PLAIN = Set.of(int.class, long.class, short.class, byte.class, char.class,
      boolean.class, String.class);

  private static String source;
  private static String code;

  public static void main(String[] args) throws Exception {
    source = Files.readString(Path.of("src/main/java/SledgeStove.java"));
    code = source.replaceAll("(?s)/\\*.*?\\*/", " ").replaceAll("//[^\n]*", " ");
    words();
    library();
    methodLengths();
    loops();
    for (Class<?> one : classes()) {
      classes(one);
    }
    Due.end();
  }

  private static List<Class<?>> classes() {
    List<Class<?>> all = new ArrayList<>();
    all.add(SledgeStove.class);
    all.addAll(List.of(SledgeStove.class.getDeclaredClasses()));
    return all;
  }

  private static boolean stands(String regex) {
    return Pattern.compile(regex).matcher(code).find();
  }

  private static void words() {
    Due.promise("rules 1, 2, 6, 13: words");
    for (String word : new String[] {"throw", "throws", "try", "catch", "synchronized", "assert", "import", "package",
        "protected", "volatile", "native", "transient", "yield", "record", "var", "double", "float", "hashCode", "toString",
        "Random", "nanoTime", "Thread"}) {
      Due.is(word + " stands there", stands("\\b" + word + "\\b") ? 1 : 0, 0);
    }
    for (String sign : new String[] {"static \\{", "->", "::", "@", "Exact", "\" *\\+", "\\+ *\"", "\\bcase [^:]*,",
        "\\[\\] *\\[\\] *\\["}) {
      Due.is(sign + " stands there", stands(sign) ? 1 : 0, 0);
    }
    Due.is("public", code.split("\\bpublic\\b").length - 1, 46 + 2);
    Due.is("no package line, no import", source.startsWith("/** ") ? 1 : 0, 1);
    for (char sign : source.toCharArray()) {
      if (sign > 126) {
        Due.is("a sign of the source", sign, 126);
      }
    }
  }

  private static void library() {
    Due.promise("rule 4: the library");
    Matcher call = Pattern.compile("\\b([A-Z][a-z]\\w*)\\.(\\w+)\\(").matcher(code);
    while (call.find()) {
      String name = call.group(1) + "." + call.group(2);
      Due.is(name + " may be called", LIBRARY.contains(name) ? 1 : 0, 1);
    }
  }

  /** A method begins and ends in a line of its own, two signs in, or four in a class inside. */
  private static void methodLengths() {
    Due.promise("rule 11: short methods");
    int from = -1;
    String indent = "";
    String[] lines = source.split("\n");
    for (int i = 0; i < lines.length; i++) {
      Matcher begin = Pattern.compile("^(  |    )(?! )[\\w\\[\\] ]+\\(.*\\) \\{$").matcher(lines[i]);
      if (begin.matches()) {
        from = i;
        indent = begin.group(1);
      } else if (from >= 0 && lines[i].equals(indent + "}")) {
        Due.is("lines from line " + (from + 1) + " on: at most 60", i - from <= 60 ? 1 : 0, 1);
        from = -1;
      }
    }
  }

  private static void loops() {
    Due.promise("rule 9: loops");
    Matcher loop = Pattern.compile("\\b(for|while) \\((.*)\\) \\{").matcher(code);
    while (loop.find()) {
      Due.is(loop.group() + " has a bound", loop.group(2).matches(".*[<>].*") ? 1 : 0, 1);
    }
    Due.is("do", stands("\\bdo\\b") ? 1 : 0, 0);
  }

  private static void classes(Class<?> one) {
    Due.promise("rules 1, 2, 3, 5, 11: " + one.getName());
    TreeSet<String> face = new TreeSet<>();
    for (Method method : SledgeStove.class.getDeclaredMethods()) {
      if (Modifier.isPublic(method.getModifiers())) {
        face.add(method.getName());
      }
    }
    Due.is("classes", classes().size() <= 12 ? 1 : 0, 1);
    Due.is("has no class inside, local or without a name", one.getNestMembers().length, classes().size());
    Due.is("static", one == SledgeStove.class || Modifier.isStatic(one.getModifiers()) ? 1 : 0, 1);
    for (Method method : one.getDeclaredMethods()) {
      Due.is(method + ": seven parameters", method.getParameterCount() <= 7 ? 1 : 0, 1);
      boolean hidden = Modifier.isPrivate(method.getModifiers());
      Due.is(method + ": hidden behind the face", hidden && face.contains(method.getName()) ? 1 : 0, 0);
    }
    for (Constructor<?> constructor : one.getDeclaredConstructors()) {
      Due.is(constructor + ": seven parameters", constructor.getParameterCount() <= 7 ? 1 : 0, 1);
    }
    int fields = 0;
    for (Field field : one.getDeclaredFields()) {
      boolean fixed = Modifier.isStatic(field.getModifiers());
      fields += fixed ? 0 : 1;
      Due.is(field + ": its type", isFine(field.getType()) ? 1 : 0, 1);
      if (fixed) {
        Due.is(field + ": a constant", Modifier.isFinal(field.getModifiers()) && field.getType() == int.class ? 1 : 0, 1);
      }
    }
    Due.is("twenty fields", fields <= 20 ? 1 : 0, 1);
  }

  private static boolean isFine(Class<?> type) {
    Class<?> plain = type.isArray() ? type.getComponentType() : type;
    return PLAIN.contains(plain) || classes().contains(plain);
  }
}
