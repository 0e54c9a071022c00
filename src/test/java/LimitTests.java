import java.lang.reflect.Constructor;
import java.lang.reflect.Field;
import java.lang.reflect.InvocationTargetException;
import java.lang.reflect.Method;
import java.lang.reflect.Modifier;
import java.util.ArrayList;
import java.util.Arrays;
import java.util.List;
import java.util.NoSuchElementException;
import java.util.Random;
import java.util.TreeSet;

/** The face is the document's; no call throws but boat, whatever the arguments; calls make no objects. */
public final class LimitTests {
  private static int wrong = 0;
  private static void say(String what) { wrong++; System.out.println(what); }

  private static final String[] FACE = {
    "int feed(int,int,int,int,int)", "boolean end(int)", "int fault(int)", "int text(int)", "int boat(int,int)", "int line(int)", "int rule(int,int)",
    "int mark(int)", "int speed(int,int)", "int steer(int,int)", "boolean gust(int)", "int go(int)", "int blow(int,long)", "int undo()", "int ahead(int,int)",
    "int where(int,int)", "int near(int,int)", "int hold(int,int)", "int row(int,int)", "int tides()", "int sag(int)", "int heap(int)", "int hole(int)",
    "int keeps(int)", "int which(int)", "int rests(int)", "int spread(int)", "int duel(int,int)", "int reply(int)", "int strong()", "int picture(int,int,int)",
    "int was(int)", "int race()", "int points(int)", "int champion()", "int season(int,long)", "int flag(int)", "int image()", "int back()", "int count(int)"};

  private static List<Method> face() {
    List<Method> all = new ArrayList<>();
    for (Method m : GunLine.class.getDeclaredMethods()) if (Modifier.isPublic(m.getModifiers())) all.add(m);
    all.sort((a, b) -> a.getName().compareTo(b.getName()));
    return all;
  }

  private static void theFace() {
    TreeSet<String> found = new TreeSet<>(), names = new TreeSet<>();
    for (Method m : face()) {
      String params = "";
      for (Class<?> c : m.getParameterTypes()) params += (params.isEmpty() ? "" : ",") + c.getName();
      found.add(m.getReturnType().getName() + " " + m.getName() + "(" + params + ")");
      names.add(m.getName());
    }
    if (!found.equals(new TreeSet<>(Arrays.asList(FACE)))) say("the face has " + found);
    for (Method m : GunLine.class.getDeclaredMethods())
      if (!m.isSynthetic() && !Modifier.isPublic(m.getModifiers())) {
        if (!Modifier.isPrivate(m.getModifiers())) say("not private: " + m);
        if (names.contains(m.getName())) say("a private method has the name of a public one: " + m);
      }
    TreeSet<String> constants = new TreeSet<>();
    for (Field f : GunLine.class.getDeclaredFields())
      if (Modifier.isPublic(f.getModifiers())) constants.add(f.getName());
      else if (!Modifier.isPrivate(f.getModifiers())) say("not private: " + f);
    if (!constants.equals(new TreeSet<>(List.of("NONE", "HIDDEN")))) say("constants: " + constants);
    Constructor<?>[] made = GunLine.class.getDeclaredConstructors();
    if (made.length != 1 || made[0].getParameterCount() != 0 || !Modifier.isPublic(made[0].getModifiers())) say("constructors: " + Arrays.toString(made));
    if (!Modifier.isFinal(GunLine.class.getModifiers())) say("the class is not final");
  }

  static void feed(GunLine g, String s) {
    for (int i = 0; i < s.length(); i += 20) {
      int[] n = new int[5];
      for (int k = 0; k < 20; k++) n[k / 4] = n[k / 4] << 8 | (i + k < s.length() ? s.charAt(i + k) : 0);
      g.feed(n[0], n[1], n[2], n[3], n[4]);
    }
  }

  private static final String[] WATERS = {"l;b", "lw2s1;b;bx1;by6;bx1y6;by7;bx1y7;by8;bx1y8", "lw20a9e1u1d1s60f1;bx19y19v3m3r0;bx18y0r1;b",
    "lw3u2d3s12;by0v2r0;bx1y1v1r1;bx2y2v2r2;by4r3;bx1y5v2r0", "ls60;by19r0;bx1y19r1;bx2y19r2;bx3y19r3;bx4y19r0;bx5y19r1;bx6y19r2;bx7y19r3", "l", "l;b;", "bx99"};
  private static final String[] RULES = {"y:1", "y:b-t", "y:!(c>1)?[x-l*2]/9;y:w", "y:t/[b-b]+9999*9999*9999", "y:((((((b=1))))))&!!!!!!c=1?[[[[[[1]]]]]]", "y:(", "y"};
  private static final int[] ODD = {Integer.MIN_VALUE, Integer.MAX_VALUE, Integer.MIN_VALUE + 1, -1000000, -21, -20, -2, 20, 21, 40, 99, 100, 240, 1 << 30};

  private static Object argument(Class<?> type, Random r) {
    if (type == long.class) return r.nextInt(4) == 0 ? (r.nextBoolean() ? Long.MIN_VALUE : Long.MAX_VALUE) : r.nextLong();
    return r.nextInt(5) == 0 ? ODD[r.nextInt(ODD.length)] : r.nextInt(12) - 2;
  }

  private static void anyCalls(int run, List<Method> face) throws IllegalAccessException {
    Random r = new Random(run);
    GunLine g = new GunLine();
    for (int i = 0; i < 300; i++) {
      int k = r.nextInt(40);
      if (k == 0) { feed(g, WATERS[r.nextInt(WATERS.length)]); g.text(0); continue; }
      if (k == 1) { feed(g, RULES[r.nextInt(RULES.length)]); g.text(1); continue; }
      if (k == 2) { g.end(0); continue; }
      Method m = face.get(r.nextInt(face.size()));
      Object[] args = new Object[m.getParameterCount()];
      for (int a = 0; a < args.length; a++) args[a] = argument(m.getParameterTypes()[a], r);
      try {
        m.invoke(g, args);
      } catch (InvocationTargetException e) {
        Throwable t = e.getCause();
        if (!m.getName().equals("boat") || t.getClass() != NoSuchElementException.class) say("run " + run + ": " + m.getName() + Arrays.toString(args) + " threw " + t);
      }
    }
  }

  private static void noObjects() {
    com.sun.management.ThreadMXBean bean = (com.sun.management.ThreadMXBean) java.lang.management.ManagementFactory.getThreadMXBean();
    GunLine g = new GunLine();
    for (String rule : List.of("y:1", "y:b-t", "y:!(c>1)?[x-l*2]/9;y:w")) { feed(g, rule); g.text(1); }
    feed(g, WATERS[3]);
    g.text(0);
    long id = Thread.currentThread().getId();
    long before = bean.getThreadAllocatedBytes(id);
    for (int i = 0; i < 2000; i++) { g.hold(0, 0); g.where(1, 0); g.near(2, 1); g.strong(); g.spread(0); g.season(1, i); g.go(1); g.undo(); g.image(); g.back(); g.flag(0); g.keeps(1); }
    long made = bean.getThreadAllocatedBytes(id) - before;
    if (made > 100000) say("24000 calls made " + made + " bytes of objects");
    before = bean.getThreadAllocatedBytes(id);
    for (int i = 0; i < 1000; i++) new GunLine();
    made = (bean.getThreadAllocatedBytes(id) - before) / 1000;
    if (made > 40000) say("a new object takes " + made + " bytes");
  }

  public static void main(String[] args) throws IllegalAccessException {
    theFace();
    List<Method> face = face();
    for (int run = 0; run < 1500; run++) anyCalls(run, face);
    noObjects();
    System.out.println(wrong == 0 ? "all limits are kept" : wrong + " limits are not kept");
    if (wrong != 0) System.exit(1);
  }
}
