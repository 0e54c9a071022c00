import java.util.Random;

/** What is looked at apart, done in earnest: each choice is told as a WATER of its own, or by hand, and goes to the gun. */
public final class ApartTests {
  private static final String[] RULES = {"y:b-t", "y:w=1?0-1;y:c<2?1;y:0", "y:!l=1&t<6?b-2;y:t/3-v", "y:x>1|b>5?1;y:0-1"};

  /** A WATER whose numbers can be told anew. */
  private static final class Told {
    int width, askew, end, tide, drift, seconds, flag;
    int[] x, y, v, m, z, r;

    Told(Random random) {
      width = 2 + random.nextInt(5);
      askew = random.nextInt(4);
      end = random.nextInt(2);
      tide = random.nextInt(5);
      drift = random.nextInt(5);
      seconds = 1 + random.nextInt(12);
      flag = random.nextInt(2);
      int n = 1 + random.nextInt(8);
      x = new int[n]; y = new int[n]; v = new int[n]; m = new int[n]; z = new int[n]; r = new int[n];
      for (int i = 0; i < n; i++) {
        do { x[i] = random.nextInt(width); y[i] = random.nextInt(i < 4 ? 6 : 20); } while (heldBy(x[i], y[i], i) < i);
        m[i] = 1 + random.nextInt(3);
        v[i] = random.nextInt(m[i] + 1);
        z[i] = random.nextInt(10);
        r[i] = random.nextInt(5);
      }
    }
    /** The first BOAT in a CELL, of those ahead of the n-th; n: none. */
    int heldBy(int column, int back, int n) {
      for (int i = 0; i < n; i++) if (x[i] == column && y[i] == back) return i;
      return n;
    }
    boolean isFreeFor(int boat, int column, int back) {
      for (int i = 0; i < x.length; i++) if (i != boat && x[i] == column && y[i] == back) return false;
      return true;
    }
    String text() {
      String s = "lw" + width + "a" + askew + "e" + end + "u" + tide + "d" + drift + "s" + seconds + "f" + flag;
      for (int i = 0; i < x.length; i++) s += ";bx" + x[i] + "y" + y[i] + "v" + v[i] + "m" + m[i] + "z" + z[i] + "r" + r[i];
      return s;
    }
    GunLine made() { return Due.with(text(), RULES); }
    /** At the gun, with a BOAT told to be elsewhere. */
    GunLine gunFrom(int boat, int column, int back) {
      int wasColumn = x[boat], wasBack = y[boat];
      x[boat] = column;
      y[boat] = back;
      GunLine g = made();
      g.go(seconds);
      x[boat] = wasColumn;
      y[boat] = wasBack;
      return g;
    }
  }

  private static void ahead(Told told, GunLine g) {
    GunLine gun = told.made();
    gun.go(told.seconds);
    int[] what = {0, 1, 2, 8, 9, 10};
    for (int i = 0; i < told.x.length; i++) for (int k = 0; k < 6; k++) Due.is("ahead(" + i + ", " + k + ") on " + told.text(), g.ahead(i, k), gun.boat(i, what[k]));
  }

  private static void where(Told told, GunLine g, int boat) {
    int best = Due.LEAST, at = -1;
    for (int column = 0; column < told.width; column++) if (told.isFreeFor(boat, column, told.y[boat])) {
      int score = told.gunFrom(boat, column, told.y[boat]).boat(boat, 9);
      if (score > best) { best = score; at = column; }
    }
    Due.is("where(" + boat + ", 0) on " + told.text(), g.where(boat, 0), at);
    Due.is("where(" + boat + ", 1) on " + told.text(), g.where(boat, 1), best);
  }

  private static void near(Told told, GunLine g, int boat) {
    int best = Due.LEAST, at = -1;
    for (int back = 0; back <= 19; back++) if (told.isFreeFor(boat, told.x[boat], back)) {
      int score = told.gunFrom(boat, told.x[boat], back).boat(boat, 9);
      if (score > best) { best = score; at = back; }
      if (back > told.y[boat] && back <= told.y[boat] + 9) Due.is("row(" + boat + ", " + (back - told.y[boat]) + ") on " + told.text(), g.row(boat, back - told.y[boat]), score);
    }
    Due.is("near(" + boat + ", 0) on " + told.text(), g.near(boat, 0), at);
    Due.is("near(" + boat + ", 1) on " + told.text(), g.near(boat, 1), best);
  }

  /** By hand: no RULE, SPEED 0 ahead of each SECOND it holds, then one more ahead of each. */
  private static void hold(Told told, GunLine g, int boat, int gone) {
    int best = Due.LEAST, at = -1;
    for (int held = 0; held <= told.seconds - gone; held++) {
      GunLine by = told.made();
      if (gone > 0) by.go(gone);
      by.rule(boat, -1);
      for (int second = gone; second < told.seconds; second++) {
        by.speed(boat, second < gone + held ? 0 : Math.min(told.m[boat], by.boat(boat, 2) + 1));
        by.go(1);
      }
      int score = by.boat(boat, 9);
      if (score > best) { best = score; at = held; }
    }
    Due.is("hold(" + boat + ", 0) on " + told.text() + " behind " + gone, g.hold(boat, 0), at);
    Due.is("hold(" + boat + ", 1) on " + told.text() + " behind " + gone, g.hold(boat, 1), best);
  }

  private static void keeps(Told told, GunLine g, int boat) {
    GunLine by = told.made();
    int found = Due.NONE;
    for (int second = 0; second <= told.seconds && found == Due.NONE; second++) {
      for (int i = 0; i < told.x.length; i++) if (by.boat(i, 0) == by.boat(boat, 0) - 1 && by.boat(i, 1) == by.boat(boat, 1)) found = second;
      by.go(1);
    }
    Due.is("keeps(" + boat + ") on " + told.text(), g.keeps(boat), found);
  }

  private static void flag(Told told, GunLine g) {
    int was = told.flag, n = told.x.length;
    int[][] place = new int[2][n];
    for (told.flag = 0; told.flag < 2; told.flag++) {
      GunLine by = told.made();
      by.go(told.seconds);
      for (int i = 0; i < n; i++) place[told.flag][i] = by.boat(i, 10);
    }
    told.flag = was;
    for (int i = 0; i < n; i++) Due.is("flag(" + i + ") on " + told.text(), g.flag(i), place[1][i] < place[0][i] ? 1 : 0);
  }

  /** BOATS where the draws put them, told as a WATER. */
  private static void season(Told told, long seed) {
    GunLine g = told.made();
    g.season(2, seed);
    Due.Seed draws = new Due.Seed(seed);
    int n = told.x.length;
    int[] wasColumn = told.x.clone(), wasBack = told.y.clone(), points = new int[n];
    for (int race = 0; race < 2; race++) {
      for (int i = 0; i < n; i++) {
        int back = 5 + draws.draw(10), column = draws.draw(told.width);
        for (int tried = 0; told.heldBy(column, back, i) < i; ) {
          column = (column + 1) % told.width;
          if (++tried == told.width) { back++; tried = 0; }
        }
        told.x[i] = column;
        told.y[i] = back;
      }
      GunLine by = told.made();
      by.go(told.seconds);
      for (int i = 0; i < n; i++) points[i] += by.boat(i, 10);
    }
    told.x = wasColumn;
    told.y = wasBack;
    for (int i = 0; i < n; i++) Due.is("points(" + i + ") behind season(2, " + seed + ") on " + told.text(), g.points(i), points[i]);
  }

  private static int duelInEarnest(int seconds, int one, int other, String... rules) {
    GunLine by = Due.with("lw2s" + seconds + ";bx0y9r" + one + ";bx1y9r" + other, rules);
    by.go(seconds);
    return by.boat(0, 9) - by.boat(1, 9);
  }

  private static void duels(int seconds, String... rules) {
    GunLine g = Due.with("lw7a9e1u1d2f1s" + seconds + ";bx3y0v1z9;bx4", rules);
    int n = rules.length, strong = 0;
    int[] sums = new int[n];
    g.flag(0);
    for (int one = 0; one < n; one++) for (int other = 0; other < n; other++) {
      int due = duelInEarnest(seconds, one, other, rules);
      Due.is("duel(" + one + ", " + other + ") of " + seconds, g.duel(one, other), due);
      sums[one] += due;
    }
    for (int rule = 0; rule < n; rule++) {
      int reply = 0;
      for (int r = 1; r < n; r++) if (duelInEarnest(seconds, r, rule, rules) > duelInEarnest(seconds, reply, rule, rules)) reply = r;
      Due.is("reply(" + rule + ") of " + seconds, g.reply(rule), reply);
      if (sums[rule] > sums[strong]) strong = rule;
    }
    Due.is("strong of " + seconds, g.strong(), strong);
  }

  public static void main(String[] args) {
    for (int run = 0; run < 250; run++) {
      Random random = new Random(run);
      Told told = new Told(random);
      int boat = random.nextInt(told.x.length);
      ahead(told, told.made());
      where(told, told.made(), boat);
      near(told, told.made(), boat);
      hold(told, told.made(), boat, 0);
      GunLine later = told.made();
      int gone = Math.min(told.seconds, 1 + random.nextInt(3));
      later.go(gone);
      hold(told, later, boat, gone);
      keeps(told, told.made(), boat);
      flag(told, told.made());
      season(told, random.nextLong());
    }
    String[][] sets = {RULES, {"y:1", "y:0", "y:b-t", "y:b-3"}, {"y:x", "y:l", "y:1-x", "y:x=0?1;y:0-1"}, {"y:x"}, {"y:1-x", "y:1"}, {"y:t>3?1;y:0-1", "y:w=1?1", "y:w=0?1;y:0-1"}};
    for (String[] rules : sets) for (int seconds = 1; seconds <= 14; seconds++) duels(seconds, rules);
    Due.finish();
  }
}
