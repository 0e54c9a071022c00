/** Part 4 of the document and promises 32 to 41: PICTURES, the BOOK, SEASONS, FLAG, IMAGE, counts. */
public final class BookBoundTests {
  private static final int[] NO_BOATS_OF_TWO = {-1, 2, 3, 8, Due.LEAST, Due.GREATEST};
  private static final String EIGHT = ";b;bx1;bx2;bx3;bx4;bx5;bx6;bx7";

  private static void noWater() {
    GunLine g = new GunLine();
    for (int i = -1; i < 9; i++) {
      Due.is("picture", g.picture(i, 0, 0), Due.NONE);
      Due.is("was", g.was(i), Due.NONE);
      Due.is("points", g.points(i), Due.NONE);
      Due.is("season", g.season(i, 1), Due.NONE);
      Due.is("flag", g.flag(i), Due.NONE);
    }
    Due.is("race", g.race(), Due.NONE);
    Due.is("champion", g.champion(), Due.NONE);
    Due.is("image", g.image(), Due.NONE);
    Due.is("back", g.back(), Due.NONE);
    for (int what = 0; what < 8; what++) Due.is("count(" + what + ")", g.count(what), 0);
  }

  // ---- promises 32 and 33 ------------------------------------------------------------------------------------

  private static void pictureBounds() {
    int[][] good = {{-20, 20}, {-20, -20}, {20, 20}, {-20, -19}, {0, 0}, {19, 20}, {-1, 0}};
    for (int[] p : good) Due.is("picture(0, " + p[0] + ", " + p[1] + ")", Due.with("l;b;bx1").picture(0, p[0], p[1]), 1);
    int[][] bad = {{-21, 20}, {-20, 21}, {-21, -21}, {21, 21}, {1, 0}, {0, -1}, {20, -20}, {20, 19}, {-19, -20}, {Due.LEAST, 0}, {0, Due.GREATEST}, {Due.LEAST, Due.GREATEST},
      {Due.GREATEST, Due.LEAST}};
    for (int[] p : bad) {
      GunLine g = Due.with("l;b;bx1");
      Due.is("picture(0, " + p[0] + ", " + p[1] + ")", g.picture(0, p[0], p[1]), Due.NONE);
      Due.is("PICTURES", g.count(5), 0);
      Due.is("none is seen", g.was(0) + g.was(1) + g.was(2), 0);
    }
    GunLine g = Due.with("l;b;bx1");
    for (int boat : NO_BOATS_OF_TWO) Due.is("picture(" + boat + ", 0, 0)", g.picture(boat, 0, 0), Due.NONE);
    for (int n = 1; n <= 12; n++) Due.is("PICTURE " + n, g.picture(n % 2, -n, n), n);
    Due.is("a thirteenth", g.picture(0, -1, -1), Due.NONE);
    Due.is("of the other, too", g.picture(1, 5, 6), Due.NONE);
    Due.is("there are 12", g.count(5), 12);
    Due.is("COULD", g.was(0), 3);
    Due.is("not SURE by the one refused", g.was(1), 0);
    Due.is("not FALSE by the one refused", g.was(2), 0);
  }

  /** One BOAT's PICTURES, by pairs; bits: 1 COULD, 2 SURE, 4 FALSE. */
  private static void seen(int want, int... pairs) {
    GunLine g = Due.with("l" + EIGHT);
    String told = "";
    for (int i = 0; i < pairs.length; i += 2) { g.picture(7, pairs[i], pairs[i + 1]); told += " " + pairs[i] + ".." + pairs[i + 1]; }
    for (int what = 0; what < 3; what++) Due.is("was(" + what + ") by" + told, g.was(what), (want >> what & 1) * 128);
  }

  private static void wasBounds() {
    seen(0);
    seen(1, -20, 20);
    seen(1, -1, 0);
    seen(3, -1, -1);
    seen(3, -20, -1);
    seen(0, 0, 0);
    seen(0, 0, 20);
    seen(1, -20, 0);
    seen(3, -5, -2, -2, 5);
    seen(4, -5, -2, -1, 5);
    seen(3, -5, 3, -4, -1);
    seen(4, -5, 3, -4, -1, 2, 3);
    seen(0, -5, 0, 0, 5);
    seen(1, -5, 0, -1, 5);
    seen(0, 20, 20);
    seen(0, 1, 1);
    seen(0, 5, 20, 5, 5);
    seen(3, -20, -20);
    seen(4, 5, 5, 6, 6);
    seen(4, 6, 6, 5, 5);
    seen(4, -6, -6, -5, -5);
    seen(3, -7, -7, -7, -7);
    GunLine g = Due.with("l;b;bx1;bx2");
    g.picture(0, -3, -2);
    g.picture(2, -3, -2);
    g.picture(2, 3, 4);
    Due.is("each by its own: COULD", g.was(0), 1);
    Due.is("each by its own: SURE", g.was(1), 1);
    Due.is("each by its own: FALSE", g.was(2), 4);
    for (int what : new int[] {-2, -1, 3, 4, Due.LEAST, Due.GREATEST}) Due.is("was(" + what + ")", g.was(what), Due.NONE);
  }

  // ---- promises 34 to 36 -------------------------------------------------------------------------------------

  private static void raceBounds() {
    GunLine g = Due.with("ls2;b;bx5y4");
    Due.is("two left", g.race(), Due.NONE);
    g.go(1);
    Due.is("one left", g.race(), Due.NONE);
    Due.is("no RACE", g.champion(), Due.NONE);
    Due.is("no RACE", g.points(0) + g.points(1) + g.count(6), 0);
    g.go(1);
    for (int n = 1; n <= 40; n++) Due.is("RACE " + n, g.race(), n);
    Due.is("a forty-first", g.race(), Due.NONE);
    Due.is("there are 40", g.count(6), 40);
    Due.is("POINTS", g.points(0), 80);
    Due.is("POINTS", g.points(1), 40);
    for (int boat : NO_BOATS_OF_TWO) Due.is("points(" + boat + ")", g.points(boat), Due.NONE);
    Due.is("CHAMPION", g.champion(), 1);
    Due.is("a SEASON has no room", g.season(1, 1), Due.NONE);
    g.undo();
    Due.is("one left", g.race(), Due.NONE);
  }

  private static void pointsArePlaces() {
    GunLine g = Due.with("lw16s1;by7;bx2y6;bx4y6;bx6y4;bx8y3;bx10y3;bx12y1;bx14y0");
    g.go(1);
    g.race();
    int[] places = {8, 6, 7, 5, 3, 4, 2, 1};
    for (int i = 0; i < 8; i++) Due.is("points(" + i + ")", g.points(i), places[i]);
    Due.is("CHAMPION", g.champion(), 7);
    g = Due.with("ls1;b;bx5;bx9");
    g.go(1);
    g.race();
    Due.is("1 2 3", g.champion(), 0);
    g.speed(2, 2);
    g.race();
    Due.is("3 5 4", g.champion(), 0);
    g.speed(1, 1);
    g.race();
    Due.is("6 7 5", g.champion(), 2);
    g.speed(0, 2);
    g.speed(2, 0);
    g.race();
    Due.is("7 9 8", g.champion(), 0);
    Due.is("points(2)", g.points(2), 8);
    g = Due.with("ls1;b;bx5");
    g.go(1);
    g.race();
    g.speed(1, 2);
    g.race();
    Due.is("3 3: of several the lowest", g.champion(), 0);
  }

  // ---- promise 37: a SEASON ----------------------------------------------------------------------------------

  private static void seasonBounds() {
    GunLine g = Due.with("ls2;b;bx5y4");
    for (int n : new int[] {-1, 0, 21, 22, 40, 41, Due.LEAST, Due.GREATEST}) {
      Due.is("season(" + n + ")", g.season(n, 1), Due.NONE);
      Due.is("no RACE", g.count(6), 0);
    }
    Due.is("season(1), not at the gun", g.season(1, 1), 1);
    Due.is("season(20)", g.season(20, 1), 21);
    Due.is("21 and 20", g.season(20, 1), Due.NONE);
    Due.is("nothing comes to the BOOK", g.count(6), 21);
    Due.is("season(18)", g.season(18, 1), 39);
    Due.is("39 and 2", g.season(2, 1), Due.NONE);
    Due.is("39 and 1", g.season(1, 1), 40);
    Due.is("40 and 1", g.season(1, 1), Due.NONE);
    Due.is("each PLACE once", g.points(0) + g.points(1), 40 * 3);
    g = Due.with("ls2;b");
    Due.is("20 and", g.season(20, 1), 20);
    Due.is("20", g.season(20, 1), 40);
    Due.is("alone: 1 each", g.points(0), 40);
    g = Due.with("ls1;b;bx5y4");
    g.go(1);
    for (int n = 1; n <= 25; n++) g.race();
    Due.is("25 and 16", g.season(16, 1), Due.NONE);
    Due.is("25 and 15", g.season(15, 1), 40);
  }

  private static int rounds, rowsHeld, behindFourteen;

  /** New CELLS as the document draws them; what went round or back is counted. */
  private static void scatter(Due.Seed x, int width, int[] column, int[] back) {
    boolean[][] held = new boolean[width][40];
    for (int i = 0; i < column.length; i++) {
      back[i] = 5 + x.draw(10);
      column[i] = x.draw(width);
      while (isHeldAll(held, back[i])) { back[i]++; rowsHeld++; if (back[i] > 14) behindFourteen++; }
      while (held[column[i]][back[i]]) { column[i]++; if (column[i] == width) { column[i] = 0; rounds++; } }
      held[column[i]][back[i]] = true;
    }
  }
  private static boolean isHeldAll(boolean[][] held, int back) {
    for (boolean[] column : held) if (!column[back]) return false;
    return true;
  }

  /** SPEED 0, no TIDE, no DRIFT: who is where the draws put it has its SCORE there. */
  private static void placesOf(int width, int[] column, int[] back, int[] points) {
    int n = column.length;
    int[] score = new int[n];
    for (int i = 0; i < n; i++) {
      score[i] = 15 * column[i] / (width - 1) - back[i];
      for (int j = 0; j < n; j++) if (Math.abs(column[i] - column[j]) <= 1 && back[i] - back[j] >= 1 && back[i] - back[j] <= 3) { score[i] -= 5; break; }
    }
    for (int i = 0; i < n; i++) {
      points[i]++;
      for (int j = 0; j < n; j++) if (score[j] > score[i] || score[j] == score[i] && j < i) points[i]++;
    }
  }

  private static void drawnSeasons(int width, String boats, int many) {
    for (long seed = -40; seed < 40; seed++) {
      GunLine g = Due.with("lw" + width + "a3e1s3" + boats);
      g.gust(99);
      Due.is("season(3, " + seed + ")", g.season(3, seed), 3);
      Due.Seed x = new Due.Seed(seed);
      int[] points = new int[many], column = new int[many], back = new int[many];
      for (int race = 0; race < 3; race++) { scatter(x, width, column, back); placesOf(width, column, back, points); }
      for (int i = 0; i < many; i++) Due.is("WIDTH " + width + ", season(3, " + seed + "): points(" + i + ")", g.points(i), points[i]);
    }
  }

  private static void drawsOfASeason() {
    String two = ";b;bx1;by6;bx1y6;by7;bx1y7;by8;bx1y8";
    rounds = rowsHeld = behindFourteen = 0;
    drawnSeasons(2, two, 8);
    Due.is("some went round", rounds > 0, true);
    Due.is("some found a whole row held", rowsHeld > 0, true);
    Due.is("some went behind BACK 14", behindFourteen > 0, true);
    rounds = 0;
    drawnSeasons(3, two, 8);
    drawnSeasons(20, EIGHT, 8);
    Due.is("some went round", rounds > 0, true);
    drawnSeasons(10, ";b", 1);
    for (long seed : new long[] {Long.MAX_VALUE, Long.MIN_VALUE, 1L << 33}) {
      GunLine g = Due.with("lw20a3e1s3" + EIGHT);
      g.season(1, seed);
      int[] points = new int[8], column = new int[8], back = new int[8];
      scatter(new Due.Seed(seed), 20, column, back);
      placesOf(20, column, back, points);
      for (int i = 0; i < 8; i++) Due.is("season(1, " + seed + "): points(" + i + ")", g.points(i), points[i]);
    }
  }

  /** EARLY is none, no MARK, all SECONDS, BOATS as the text told them, no gusts, whatever has been ahead of it. */
  private static void aSeasonBeginsAsTold() {
    String water = "lw4s8u3f1;bx0y0v2r0z0;bx2y9v1r0z9;bx3y4;bx1y2m3r1;bx3y1v1z1r1";
    String[] rules = {"y:b>4?1;y:0-1", "y:t<5?b-2;y:0"};
    for (long seed = 0; seed < 30; seed++) {
      GunLine fresh = Due.with(water, rules), used = Due.with(water, rules);
      for (int i = 0; i < 5; i++) used.mark(i);
      used.gust(80);
      used.blow(3, seed);
      used.speed(2, 2);
      used.rule(2, 1);
      used.rule(0, -1);
      used.steer(1, 1);
      used.go(5);
      Due.is("somebody is EARLY", used.which(2) > 0, true);
      fresh.season(4, seed);
      used.season(4, seed);
      for (int i = 0; i < 5; i++) Due.is("season(4, " + seed + "): points(" + i + ")", used.points(i), fresh.points(i));
    }
  }

  private static void aSeasonGoesToTheGun() {
    // SPEED 1 for 60 SECONDS: all are over, whatever is drawn; with ASKEW the column decides; one stays and wins
    for (long seed = 0; seed < 20; seed++) {
      GunLine g = Due.with("lw20s60;bv1;bx5v0");
      g.season(1, seed);
      Due.is("who stays is first", g.points(1), 1);
      g = Due.with("lw20s1;bv1;bx5v0");
      g.season(1, seed);
      int[] column = new int[2], back = new int[2];
      scatter(new Due.Seed(seed), 20, column, back);
      boolean near = Math.abs(column[0] - column[1]) <= 1;
      int behind = back[0] - back[1];
      if (!near || behind < 1 || behind > 3) back[0]--;
      behind = back[0] - back[1];
      int first = 1 - back[0] - (near && behind >= 1 && behind <= 3 ? 5 : 0), second = -back[1] - (near && behind <= -1 && behind >= -3 ? 5 : 0);
      Due.is("one SECOND, seed " + seed, g.points(0), first >= second ? 1 : 2);
    }
  }

  // ---- promise 38: WHICH FLAG --------------------------------------------------------------------------------

  private static void flagBounds() {
    for (int told = 0; told < 2; told++) {
      // boat 0 has 45 + 1 and is over at the gun: less 30 it is first still, less 100 it is not
      GunLine g = Due.with("lw2a9s3f" + told + ";bx0y0v1;bx1y15");
      for (int boat : NO_BOATS_OF_TWO) Due.is("flag(" + boat + ")", g.flag(boat), Due.NONE);
      Due.is("who is over", g.flag(0), 0);
      Due.is("who is behind", g.flag(1), 1);
      Due.is("the FLAG is as told", g.line(6), told);
      g.go(3);
      Due.is("at the gun: who is over", g.flag(0), 0);
      Due.is("at the gun: who is behind", g.flag(1), 1);
    }
    GunLine g = Due.with("ls3;by9;bx5y8");
    Due.is("nobody over, alike", g.flag(0), 0);
    Due.is("nobody over, alike", g.flag(1), 0);
    Due.is("alone, alike", Due.with("ls3;by0v1").flag(0), 0);
    // both over: 45 - 30 and 1 - 30, or 45 - 100 and 1 - 100
    g = Due.with("lw2a9s3;bx0y0v1;bx1y0v1");
    Due.is("both over, alike", g.flag(0), 0);
    Due.is("both over, alike", g.flag(1), 0);
    // BACK 19 against RECALLED: 1 - 30 is less than -19, less 100 too; 31 to the better END turns it
    g = Due.with("lw3a2e0s9;bx0y0v1;bx2y19");
    Due.is("10 + 1 - 30 equals -19: the lower number is first; by FLAG 1 it is not", g.flag(1), 1);
    Due.is("it loses nothing by FLAG 0", g.flag(0), 0);
    g = Due.with("lw3a2e0s9;bx2y19;bx0y0v1");
    Due.is("alike in SCORE, the lower number first by both", g.flag(0), 0);
    Due.is("alike in SCORE, the greater number second by both", g.flag(1), 0);
  }

  // ---- promises 39 to 41 -------------------------------------------------------------------------------------

  private static void imageBounds() {
    GunLine g = Due.with("ls20;by9v1;bx5y9v1", "y:1");
    Due.is("no IMAGE", g.back(), Due.NONE);
    Due.is("image at SECOND 0", g.image(), 0);
    g.go(20);
    Due.is("image at the gun, instead of that", g.image(), 20);
    for (int i = 0; i < 40; i++) g.undo();
    Due.is("undone", g.count(3), 0);
    g.speed(0, 0);
    Due.is("an ACT", g.count(7), 1);
    Due.is("back to the gun", g.back(), 20);
    Due.is("none can be UNDONE", g.count(7), 0);
    Due.is("none can be UNDONE", g.undo(), Due.NONE);
    Due.boats("as they were", g, 1, -11, -11);
    Due.boats("as they were", g, 2, 1, 1);
    Due.boats("as they were", g, 7, 1, 1);
    Due.is("no SECOND is left", g.go(1), Due.NONE);
    Due.is("a RACE can be put by", g.race(), 1);
    g.picture(0, 1, 1);
    g.gust(5);
    g.speed(1, 2);
    Due.is("back as often as one likes", g.back(), 20);
    Due.boats("as they were", g, 2, 1, 1);
    Due.is("the BOOK stays", g.count(6) * 10 + g.points(1), 12);
    Due.is("PICTURES stay", g.count(5), 1);
    Due.is("RULES stay", g.count(1), 1);
    Due.is("GUST stays", g.count(4), 5);
    Due.is("ACTS behind it", g.mark(0), 1);
    Due.is("can be UNDONE", g.undo(), 0);
    Due.is("no further", g.undo(), Due.NONE);
    Due.feed(g, "l;b");
    Due.is("another WATER", g.text(0), 1);
    Due.is("has no IMAGE", g.back(), Due.NONE);
    Due.is("a RULE is no WATER", Due.feed(g, "y:1") == 3 && g.image() == 0 && g.text(1) == 1, true);
    Due.is("its IMAGE stays", g.back(), 0);
  }

  private static void anImageKeepsAllOfBoats() {
    GunLine g = Due.with("lw6s12u2d3f1;bx0y0v1r0;bx3y6v2;bx3y4z2", "y:0-1");
    g.mark(2);
    g.rule(1, 3);
    g.go(3);
    g.image();
    int[][] was = new int[3][12];
    for (int i = 0; i < 3; i++) for (int what = 0; what < 12; what++) was[i][what] = g.boat(i, what);
    g.mark(0);
    g.rule(1, 0);
    g.rule(0, -1);
    g.speed(2, 2);
    g.steer(2, -1);
    g.go(9);
    Due.is("back", g.back(), 3);
    for (int i = 0; i < 3; i++) for (int what = 0; what < 12; what++) Due.is("boat(" + i + ", " + what + ")", g.boat(i, what), was[i][what]);
    g.go(1);
    g.mark(1);
    g.back();
    for (int i = 0; i < 3; i++) for (int what = 0; what < 12; what++) Due.is("again: boat(" + i + ", " + what + ")", g.boat(i, what), was[i][what]);
  }

  private static void aNewWaterTakesAllButRulesAndGust() {
    GunLine g = Due.with("lw6s3u1d1f1;bx0y0v1r0;bx3y6v2;bx3y4z2", "y:1", "y:0");
    g.gust(33);
    g.mark(1);
    g.go(3);
    g.race();
    g.picture(0, -1, -1);
    g.picture(1, -1, -1);
    g.picture(1, 1, 1);
    g.image();
    Due.feed(g, "l;b;bx1r0v1");
    Due.is("another WATER", g.text(0), 2);
    int[] counts = {2, 2, 0, 0, 33, 0, 0, 0};
    for (int what = 0; what < 8; what++) Due.is("count(" + what + ")", g.count(what), counts[what]);
    int[] line = {10, 0, 0, 0, 0, 20, 0};
    for (int what = 0; what < 7; what++) Due.is("line(" + what + ")", g.line(what), line[what]);
    Due.boats("no MARK", g, 6, 0, 0);
    Due.boats("not EARLY", g, 7, 0, 0);
    for (int what = 0; what < 3; what++) Due.is("was(" + what + ")", g.was(what), 0);
    g.picture(1, 5, 5);
    Due.is("what was seen of another is forgotten", g.was(2), 0);
    Due.is("no POINTS", g.points(0) + g.points(1), 0);
    Due.is("points of one that is gone", g.points(2), Due.NONE);
    Due.is("a BOAT that is gone", Due.throwsAt(g, 2, 0), true);
    Due.is("no CHAMPION", g.champion(), Due.NONE);
    Due.is("nothing to undo", g.undo(), Due.NONE);
    Due.is("no IMAGE", g.back(), Due.NONE);
    Due.is("SECOND 1", g.go(1), 1);
    Due.is("RULES are asked", g.boat(1, 2), 2);
    Due.is("a SEASON is of the new one", g.season(1, 1) == 1 && g.points(0) + g.points(1) == 3, true);
  }

  private static void countBounds() {
    GunLine g = Due.with("l;b;bx1;bx2", "y:1");
    for (int what : new int[] {-2, -1, 8, 9, Due.LEAST, Due.GREATEST}) {
      Due.is("count(" + what + ")", g.count(what), Due.HIDDEN);
      Due.is("no WATER: count(" + what + ")", new GunLine().count(what), Due.HIDDEN);
    }
    Due.feed(g, "hello");
    g.gust(7);
    g.go(4);
    g.picture(0, 0, 0);
    g.season(2, 1);
    int[] counts = {3, 1, 5, 4, 7, 1, 2, 4};
    for (int what = 0; what < 8; what++) Due.is("count(" + what + ")", g.count(what), counts[what]);
    Due.is("NONE", GunLine.NONE, -1);
    Due.is("HIDDEN", GunLine.HIDDEN, -1000000);
  }

  public static void main(String[] args) {
    noWater(); pictureBounds(); wasBounds(); raceBounds(); pointsArePlaces();
    seasonBounds(); drawsOfASeason(); aSeasonBeginsAsTold(); aSeasonGoesToTheGun();
    flagBounds(); imageBounds(); anImageKeepsAllOfBoats(); aNewWaterTakesAllButRulesAndGust(); countBounds();
    Due.finish();
  }
}
