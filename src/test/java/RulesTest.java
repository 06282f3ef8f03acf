import java.io.IOException;
import java.lang.management.ManagementFactory;
import java.lang.reflect.Constructor;
import java.lang.reflect.Field;
import java.lang.reflect.Method;
import java.lang.reflect.Modifier;
import java.nio.file.Files;
import java.nio.file.Path;
import java.util.ArrayList;
import java.util.Arrays;
import java.util.List;
import java.util.NoSuchElementException;
import java.util.Random;
import java.util.Set;
import java.util.TreeSet;

/** The face, the rules of the language that can be looked at, wild arguments, and what calls make. */
public final class RulesTest {
  private static int wrong = 0;

  private static void must(boolean so, String what) {
    if (!so) { wrong++; System.out.println("not so: " + what); }
  }

  private static final List<String> FACE = List.of("int feed(int,int,int,int,int)", "int sea(int)", "int fault()", "int where()", "int island(int,int)", "int card(int)", "int beside(int)", "int trade(int,int)", "int trades()", "int wars()", "int run()", "int runAt(int)", "int journey(int,int)", "int wishes()", "int crowd()", "int nearest(int,int)", "int people(int)", "int planned(int,int)", "int plannedTrades(int)", "int judge()", "int fits(int)", "int fitAt(int,int)", "int again()", "int cycle(int)", "int can(int,int)", "long odds(int,int,int,boolean)", "long inSea(int,int,boolean)", "int alike(int,int)", "int fewest(int,int)", "int moveAt(int,int,int)", "int together(int,int)", "int togetherAt(int,int,int)", "int three(int,int,int)", "int best()", "int bestTrades()", "int bestTwo()", "int exchange()", "int gain(int,int,int,int)", "int rests(int,int)", "int rest(int,int)", "int decade(int,int)", "int decadeWishes(int,int)", "int decadeOf(int,int,int)", "int deal(int)", "int palm(int)", "boolean lay()", "boolean undo()", "int image()", "boolean back(int)", "int led(int)", "int size(int)", "int trouble()");

  private static String told(Method m) {
    List<String> types = new ArrayList<>();
    for (Class<?> p : m.getParameterTypes()) types.add(p.getName());
    return m.getReturnType().getName() + " " + m.getName() + "(" + String.join(",", types) + ")";
  }

  private static void face() {
    Set<String> found = new TreeSet<>();
    Set<String> names = new TreeSet<>();
    for (Method m : DealtSea.class.getDeclaredMethods()) {
      if (!Modifier.isPrivate(m.getModifiers())) { found.add(told(m)); names.add(m.getName()); }
      else must(!FACE.toString().contains(" " + m.getName() + "("), "the private " + m.getName() + " bears no public name");
    }
    must(found.equals(new TreeSet<>(FACE)), "the face is the document's: " + found);
    must(Modifier.isFinal(DealtSea.class.getModifiers()), "the class is final");
    for (Field f : DealtSea.class.getDeclaredFields()) must(Modifier.isPrivate(f.getModifiers()) || f.getName().equals("NONE"), f.getName() + " is private");
    for (Constructor<?> c : DealtSea.class.getDeclaredConstructors()) must(c.getParameterCount() == 0, "one constructor");
    int classes = 1;
    for (Class<?> c : DealtSea.class.getDeclaredClasses()) {
      classes++;
      must(Modifier.isStatic(c.getModifiers()), c.getName() + " is static");
      int fields = 0;
      for (Field f : c.getDeclaredFields()) if (!Modifier.isStatic(f.getModifiers())) fields++;
      must(fields <= 20, c.getName() + " has few fields");
      for (Method m : c.getDeclaredMethods()) {
        must(!names.contains(m.getName()), c.getName() + "." + m.getName() + " bears no public name");
        must(m.getParameterCount() <= 7, m.getName() + " takes at most seven");
      }
    }
    must(classes <= 12, "at most twelve classes");
  }

  private static void source() throws IOException {
    List<String> lines = Files.readAllLines(Path.of("src/main/java/DealtSea.java"));
    String all = String.join("\n", lines);
    for (String word : List.of("->", "::", "try ", "catch", "finally", "synchronized", "assert ", "static {", "String[]", "Exact(", "getMessage", "package ", "double", "float", "null")) {
      must(!all.contains(word), "no '" + word + "' in the source");
    }
    int start = 0;
    for (int l = 0; l < lines.size(); l++) {
      String line = lines.get(l);
      if (line.startsWith("import ")) must(Set.of("import java.util.Arrays;", "import java.util.NoSuchElementException;").contains(line), line);
      if (line.matches(" {4}( {4})?[a-zA-Z].*\\) (throws \\w+ )?\\{")) start = l;
      if (line.matches(" {4}( {4})?\\}") && line.indexOf('}') <= 8) must(l - start < 60 || line.indexOf('}') == 4, "the method at line " + start + " is short");
    }
  }

  private static void tell(DealtSea x, String text) {
    String t = text + " ".repeat((20 - text.length() % 20) % 20);
    for (int p = 0; p < t.length(); p += 20) {
      int[] a = new int[5];
      for (int c = 0; c < 20; c++) a[c / 4] = a[c / 4] << 8 | t.charAt(p + c) & 255;
      x.feed(a[0], a[1], a[2], a[3], a[4]);
    }
    must(x.sea(text.length()) >= 2, "a sea by " + text);
  }

  private static String full(String water) {
    StringBuilder t = new StringBuilder("sea wide 4 high 3 trumps fish " + water);
    for (int k = 0; k < 12; k++) t.append(";island ").append((char) ('a' + k)).append(" marked fish rank ").append(k % 9 + 1).append(" people 99");
    for (int k = 0; k < 10; k++) t.append(";family f").append((char) ('a' + k)).append(" cut 11");
    return t.append(";wish a b;wish a c;wish a d;wish a e;wish a f;wish a g;shows 1 a").toString();
  }

  private static final int[] WILD = {Integer.MIN_VALUE, Integer.MIN_VALUE + 1, -65537, -1000, -16, -13, -12, -2, -1, 0, 1, 2, 3, 4, 5, 8, 11, 12, 13, 14, 15, 16, 31, 32, 33, 50, 51, 63, 64, 100, 101, 143, 144, 900, 1727, 1728, 65536, 65537, 1 << 30, Integer.MAX_VALUE - 20, Integer.MAX_VALUE};

  /** Nothing but led's exception may come out of any call, whatever the arguments and the state. */
  private static void wild() throws ReflectiveOperationException {
    Random dice = new Random(7);
    List<Method> calls = new ArrayList<>();
    for (Method m : DealtSea.class.getDeclaredMethods()) if (Modifier.isPublic(m.getModifiers())) calls.add(m);
    calls.sort((a, b) -> told(a).compareTo(told(b)));
    for (int run = 0; run < 400; run++) {
      DealtSea x = new DealtSea();
      if (run % 4 > 0) tell(x, full(run % 4 == 1 ? "tide" : "calm"));
      if (run % 4 == 3) x.palm(run % 12);
      for (int c = 0; c < 300; c++) {
        Method m = calls.get(dice.nextInt(calls.size()));
        Object[] a = new Object[m.getParameterCount()];
        for (int p = 0; p < a.length; p++) {
          boolean flag = m.getParameterTypes()[p] == boolean.class;
          a[p] = flag ? (Object) dice.nextBoolean() : (Object) (dice.nextInt(3) == 0 ? dice.nextInt(13) : WILD[dice.nextInt(WILD.length)]);
        }
        try {
          m.invoke(x, a);
        } catch (java.lang.reflect.InvocationTargetException e) {
          boolean due = m.getName().equals("led") && e.getCause() instanceof NoSuchElementException;
          must(due, m.getName() + Arrays.toString(a) + " throws " + e.getCause());
        }
      }
    }
  }

  private static void dearest(DealtSea x) {
    for (int i = 0; i < 10; i++) {
      x.three(i, i + 1, i + 2);
      x.together(0, i + 1);
      x.fits(3);
      x.fitAt(3, 2);
      x.bestTwo();
      x.exchange();
      x.rests(1, 2);
      x.rest(0, 3);
      x.decade(i, 50);
      x.decadeWishes(i, 50);
      x.decadeOf(i, 1, 50);
      x.odds(i, 8, 3, true);
      x.alike(i, 1);
      x.can(i, 12);
      x.runAt(3);
      x.journey(0, i);
      x.crowd();
      x.deal(i);
      x.again();
      x.image();
      x.undo();
      x.sea(0);
    }
  }

  /** All calls of a run live in one room: rows are made by the constructor alone. */
  private static void makesNothing() {
    com.sun.management.ThreadMXBean bean = (com.sun.management.ThreadMXBean) ManagementFactory.getThreadMXBean();
    long me = Thread.currentThread().getId();
    DealtSea x = new DealtSea();
    tell(x, full("calm"));
    dearest(x);
    bean.getThreadAllocatedBytes(me);
    long before = bean.getThreadAllocatedBytes(me);
    dearest(x);
    long made = bean.getThreadAllocatedBytes(me) - before;
    must(made < 1000, "220 dear calls make nothing, but they made bytes: " + made);
    before = bean.getThreadAllocatedBytes(me);
    DealtSea y = new DealtSea();
    made = bean.getThreadAllocatedBytes(me) - before;
    must(made < 50000 && y.size(0) == 0, "a new object is small, but has bytes: " + made);
  }

  public static void main(String[] args) throws IOException, ReflectiveOperationException {
    face();
    source();
    wild();
    makesNothing();
    System.out.println(wrong == 0 ? "all rules are kept" : wrong + " rules are not kept");
    if (wrong != 0) System.exit(1);
  }
}
