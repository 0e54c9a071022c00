import java.math.BigInteger;
import java.util.NoSuchElementException;

/** What the tests share: what is due, texts fed as bytes, objects with a WATER and RULES, draws worked out apart. */
final class Due {
  static final int NONE = -1, HIDDEN = -1000000;
  static final int LEAST = Integer.MIN_VALUE, GREATEST = Integer.MAX_VALUE;
  private static int wrong = 0;
  private static int asked = 0;

  interface Call { long on(GunLine g); }

  private Due() { }

  static void is(String what, long got, long want) {
    asked++;
    if (got != want) { wrong++; System.out.println(what + " answered " + got + ", due is " + want); }
  }
  static void is(String what, boolean got, boolean want) { is(what, got ? 1 : 0, want ? 1 : 0); }
  static void fail(String what) { asked++; wrong++; System.out.println(what); }

  static void finish() {
    System.out.println(wrong == 0 ? asked + " answers are as due" : wrong + " of " + asked + " answers are not as due");
    if (wrong != 0) System.exit(1);
  }

  static int feed(GunLine g, String s) {
    int answer = g.count(2);
    for (int i = 0; i < s.length(); i += 20) {
      int[] n = new int[5];
      for (int k = 0; k < 20; k++) n[k / 4] = n[k / 4] << 8 | (i + k < s.length() ? s.charAt(i + k) : 0);
      answer = g.feed(n[0], n[1], n[2], n[3], n[4]);
    }
    return answer;
  }
  static GunLine taped(String s) { GunLine g = new GunLine(); feed(g, s); return g; }

  /** A new object with a WATER and RULES. */
  static GunLine with(String water, String... rules) {
    GunLine g = new GunLine();
    for (String rule : rules) { feed(g, rule); if (g.text(1) == NONE) fail("no RULE: " + rule); }
    feed(g, water);
    if (g.text(0) == NONE) fail("no WATER: " + water);
    return g;
  }

  static void fault(int sort, String s, int want) { is("fault(" + sort + ") of '" + s + "'", taped(s).fault(sort), want); }

  static void boats(String when, GunLine g, int what, int... want) {
    for (int i = 0; i < want.length; i++) is(when + ": boat(" + i + ", " + what + ")", g.boat(i, what), want[i]);
  }
  static boolean throwsAt(GunLine g, int boat, int what) {
    try { g.boat(boat, what); return false; } catch (NoSuchElementException e) { return true; }
  }

  static String times(String s, int n) { return s.repeat(n); }

  /** The document's draws, in numbers that know no bound, cut to 64 bits by hand. */
  static final class Seed {
    private static final BigInteger ROUND = BigInteger.ONE.shiftLeft(64);
    private BigInteger x;
    Seed(long seed) { x = BigInteger.valueOf(seed).mod(ROUND); }
    int draw(int k) {
      x = x.multiply(new BigInteger("6364136223846793005")).add(new BigInteger("1442695040888963407")).mod(ROUND);
      return x.shiftRight(33).mod(BigInteger.valueOf(k)).intValue();
    }
  }
}
