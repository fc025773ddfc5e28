import java.lang.management.ManagementFactory;
import java.lang.reflect.Constructor;
import java.lang.reflect.Field;
import java.lang.reflect.Method;
import java.lang.reflect.Modifier;
import java.nio.file.Files;
import java.nio.file.Path;
import java.util.ArrayList;
import java.util.List;
import java.util.Set;
import java.util.TreeSet;
import java.util.regex.Matcher;
import java.util.regex.Pattern;

/** What can be looked at of LANGUAGE.md: the face, words that may not stand, sizes, what calls make. */
public final class LanguageTest {
  private static final String FACE = "person4 kin3 roll3 rollOf1 write2 erase1 fault1 tells3 act3 strikeOut2 force2 may3 trial9 away3 "
      + "like4 box1 drawn2 slip2 jury1 about2 bad1 sums2 owed2 chance4 twelve2 part1 beside3 clash2 turn2 image1 from1 count1 digest0";
  private static int wrong = 0;

  private static void check(boolean well, String what) {
    if (!well) {
      wrong++;
      System.out.println(what);
    }
  }

  public static void main(String[] args) throws Exception {
    face();
    source(Files.readString(Path.of(args.length > 0 ? args[0] : "src/main/java/SwornLists.java")));
    callsMakeNothing();
    System.out.println(wrong == 0 ? "LanguageTest: all as due" : "LanguageTest: " + wrong + " wrong");
    if (wrong != 0) System.exit(1);
  }

  private static void face() {
    Class<?> c = SwornLists.class;
    check(Modifier.isFinal(c.getModifiers()) && Modifier.isPublic(c.getModifiers()), "the class is not public and final");
    Set<String> seen = new TreeSet<>();
    for (Method m : c.getDeclaredMethods()) {
      if (m.isSynthetic()) continue;
      if (Modifier.isPrivate(m.getModifiers())) continue;
      check(Modifier.isPublic(m.getModifiers()) && !Modifier.isStatic(m.getModifiers()), "not private and not of the face: " + m);
      seen.add(m.getName() + m.getParameterCount());
      boolean isLong = m.getName().equals("tells") || m.getName().equals("part") || m.getName().equals("digest");
      check(m.getReturnType() == (isLong ? long.class : int.class), "another answer: " + m);
    }
    check(seen.equals(new TreeSet<>(List.of(FACE.split(" ")))), "another face: " + seen);
    for (Constructor<?> m : c.getDeclaredConstructors()) check(Modifier.isPublic(m.getModifiers()) && m.getParameterCount() == 0, "another constructor: " + m);
    for (Field f : c.getDeclaredFields()) {
      boolean named = Set.of("NONE", "BAD", "NO", "FULL").contains(f.getName());
      check(named == !Modifier.isPrivate(f.getModifiers()), "a field that is seen: " + f);
    }
    Set<String> names = new TreeSet<>();
    for (String one : FACE.split(" ")) names.add(one.substring(0, one.length() - 1));
    int classes = 1;
    for (Class<?> inner : c.getDeclaredClasses()) {
      classes++;
      check(Modifier.isStatic(inner.getModifiers()), "not static: " + inner);
      int fields = 0;
      for (Field f : inner.getDeclaredFields()) if (!Modifier.isStatic(f.getModifiers())) fields++;
      check(fields <= 20, "many fields: " + inner);
      for (Method m : inner.getDeclaredMethods()) {
        check(!names.contains(m.getName()), "bears a name of the face: " + m);
        check(m.getParameterCount() <= 7, "many parameters: " + m);
      }
    }
    check(classes <= 12, "many classes: " + classes);
  }

  private static void source(String text) {
    String code = Pattern.compile("(?s)/\\*.*?\\*/").matcher(text).replaceAll(m -> m.group().replaceAll("[^\n]", "")).replaceAll("//[^\n]*", "").replaceAll("'(\\\\.|.)'", "0");
    for (String word : new String[] {"throw", "throws", "try", "catch", "finally", "synchronized", "assert", "import", "package", "Object", "Random", "Thread",
        "currentTimeMillis", "nanoTime", "toString", "hashCode", "equals", "var", "volatile", "native", "strictfp", "double", "float", "\\w+Exact"}) {
      Matcher m = Pattern.compile("\\b" + word + "\\b").matcher(code);
      check(!m.find(), "stands in the source: " + word);
    }
    check(!code.contains("->") && !code.contains("::") && !code.contains("@"), "a lambda, a method's reference or a mark stands in the source");
    check(text.chars().allMatch(c -> c == '\n' || c >= 32 && c < 127), "a sign that is not plain");
    Matcher dotted = Pattern.compile("\\b(Math|Integer|Long|System|Arrays|String)\\.(\\w+)").matcher(code);
    while (dotted.find()) {
      check(Set.of("min", "max", "bitCount", "compare", "arraycopy").contains(dotted.group(2)), "of the library: " + dotted.group());
    }
    methods(code);
  }

  /** Long methods, and objects made outside constructors and first values. */
  private static void methods(String code) {
    String[] lines = code.split("\n");
    List<String> made = new ArrayList<>();
    int start = -1;
    String head = "";
    for (int i = 0; i < lines.length; i++) {
      String line = lines[i];
      if (start < 0 && line.matches("( {2}| {4})\\S.*\\) \\{|  public int trial\\(.*")) {
        start = i;
        head = line;
      }
      boolean isConstructor = head.matches(" +(public )?[A-Z]\\w*\\(.*");
      if (start >= 0 && line.contains(" new ") && !isConstructor) made.add(line);
      int indent = head.length() - head.stripLeading().length();
      if (start >= 0 && line.equals(" ".repeat(indent) + "}")) {
        check(i - start <= 60, "a long method: " + head);
        start = -1;
        head = "";
      }
    }
    check(made.isEmpty(), "objects are made by calls: " + made);
  }

  /** Rows are made once: five hundred calls leave the room as it was. */
  private static void callsMakeNothing() {
    com.sun.management.ThreadMXBean bean = (com.sun.management.ThreadMXBean) ManagementFactory.getThreadMXBean();
    long id = Thread.currentThread().getId();
    for (int turn = 0; turn < 2; turn++) {
      SwornLists x = new SwornLists();
      long ahead = bean.getThreadAllocatedBytes(id);
      for (int i = 0; i < 30; i++) x.person(i % 4, i % 3, i, i);
      for (char c : TEXT) x.write(0, c);
      x.act(0, 0, 0);
      for (int i = 0; i < 10; i++) x.trial(i, 2, 8, i % 3, -1, -1, 4, i, 24);
      for (int i = 0; i < 100; i++) {
        x.like(0, i % 2, i % 30, -i);
        x.digest();
        x.beside(i % 10, 0, i % 2);
        x.clash(63 << i % 5, -1);
      }
      x.image(1);
      x.from(1);
      long more = bean.getThreadAllocatedBytes(id) - ahead;
      // the first turn may load classes
      check(turn == 0 || more < 2000, "calls made " + more + " bytes");
    }
  }

  private static final char[] TEXT = "s<2&(a>20|l>3)".toCharArray();
}
