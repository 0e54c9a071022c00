import java.util.ArrayList;
import java.util.List;

/** Part 3 of the document and promises 16 to 31: the bounds of what is looked at apart. */
public final class AheadBoundTests {
  private static final int[] NO_BOATS_OF_TWO = {-1, 2, 3, 8, Due.LEAST, Due.GREATEST};
  private static final int[] NO_CHOICES = {-2, -1, 2, 3, Due.LEAST, Due.GREATEST};
  private static final String EIGHT = ";b;bx1;bx2;bx3;bx4;bx5;bx6;bx7";

  private static void noWater() {
    GunLine g = Due.taped("y:1");
    g.text(1);
    for (int what = -1; what < 7; what++) {
      Due.is("ahead", g.ahead(0, what), Due.HIDDEN);
      Due.is("where", g.where(0, what), Due.HIDDEN);
      Due.is("near", g.near(0, what), Due.HIDDEN);
      Due.is("hold", g.hold(0, what), Due.HIDDEN);
      Due.is("row", g.row(0, what), Due.HIDDEN);
      Due.is("sag", g.sag(what), Due.HIDDEN);
      Due.is("heap", g.heap(what), Due.NONE);
      Due.is("which", g.which(what), Due.NONE);
      Due.is("rests", g.rests(what), Due.NONE);
      Due.is("spread", g.spread(what), Due.NONE);
      Due.is("duel", g.duel(0, what), Due.HIDDEN);
      Due.is("duel", g.duel(what, 0), Due.HIDDEN);
      Due.is("reply", g.reply(what), Due.NONE);
      Due.is("hole", g.hole(what), Due.NONE);
      Due.is("keeps", g.keeps(what), Due.NONE);
    }
    Due.is("tides", g.tides(), Due.NONE);
    Due.is("strong", g.strong(), Due.NONE);
  }

  private static void noSuchOnes() {
    GunLine g = Due.with("l;b;bx1");
    for (int boat : NO_BOATS_OF_TWO) {
      for (int what = 0; what < 6; what++) Due.is("ahead(" + boat + ", " + what + ")", g.ahead(boat, what), Due.HIDDEN);
      for (int what = 0; what < 2; what++) {
        Due.is("where(" + boat + ", " + what + ")", g.where(boat, what), Due.HIDDEN);
        Due.is("near(" + boat + ", " + what + ")", g.near(boat, what), Due.HIDDEN);
        Due.is("hold(" + boat + ", " + what + ")", g.hold(boat, what), Due.HIDDEN);
      }
      Due.is("row(" + boat + ", 1)", g.row(boat, 1), Due.HIDDEN);
      Due.is("hole(" + boat + ")", g.hole(boat), Due.NONE);
      Due.is("keeps(" + boat + ")", g.keeps(boat), Due.NONE);
    }
    for (int what : NO_CHOICES) for (int boat = 0; boat < 2; boat++) {
      Due.is("where(" + boat + ", " + what + ")", g.where(boat, what), Due.HIDDEN);
      Due.is("near(" + boat + ", " + what + ")", g.near(boat, what), Due.HIDDEN);
      Due.is("hold(" + boat + ", " + what + ")", g.hold(boat, what), Due.HIDDEN);
    }
    for (int what : new int[] {-2, -1, 6, 7, Due.LEAST, Due.GREATEST}) Due.is("ahead(0, " + what + ")", g.ahead(0, what), Due.HIDDEN);
    for (int what = 0; what < 6; what++) Due.is("ahead(1, " + what + ")", g.ahead(1, what) != Due.HIDDEN, true);
  }

  private static void aheadIsFromAsItIs() {
    GunLine g = Due.with("lw4a2s6f1;bx3y9v1;bx0y5");
    int[] told = {3, 3, 1, 0, 1 - 3, 2};
    for (int what = 0; what < 6; what++) Due.is("ahead(0, " + what + ")", g.ahead(0, what), told[what]);
    g.speed(0, 2);
    Due.is("by SPEED 2: nine lengths and three", g.ahead(0, 1), -3);
    Due.is("OUT", g.ahead(0, 3), 2);
    Due.is("OUT", g.ahead(0, 4), 2 - 100);
    Due.is("behind the other", g.ahead(0, 5), 2);
    g.go(6);
    int[] now = {0, 1, 2, 8, 9, 10};
    for (int boat = 0; boat < 2; boat++) for (int what = 0; what < 6; what++) Due.is("at the gun it is as it is", g.ahead(boat, what), g.boat(boat, now[what]));
  }

  private static void where(String water, int boat, int column, int score) {
    GunLine g = Due.with(water);
    Due.is("where(" + boat + ", 0) on " + water, g.where(boat, 0), column);
    Due.is("where(" + boat + ", 1) on " + water, g.where(boat, 1), score);
    Due.is("it is where it was", g.boat(boat, 0), Due.with(water).boat(boat, 0));
  }

  private static void whereBounds() {
    where("lw2a9e1s1;by3", 0, 1, 45 - 3);
    where("lw2a9e0s1;bx1y3", 0, 0, 45 - 3);
    where("lw20a9e1s1;by3", 0, 19, 45 - 3);
    where("lw20a9e0s1;bx19y3", 0, 0, 45 - 3);
    where("lw20a9e1s1;by3;bx19y3", 0, 18, 42 - 3);
    where("lw20a9e1s1;by3;bx19y9", 0, 19, 45 - 3);
    where("lw20a9e0s1;bx9y3;by3", 0, 1, 42 - 3);
    where("lw9s1;bx5y3", 0, 0, -3);
    where("lw9s1;bx5y3;bx0y3;bx1y3", 0, 2, -3);
    where("lw9s1;bx0y3;bx1y3", 0, 0, -3);
    // one at BACK 1 in COLUMN 2 throws its shadow on COLUMNS 1 to 3
    where("lw9s1;bx8y3;bx2y1;bx0y3", 0, 4, -3);
    where("lw4s1;bx3y3;bx2y1;bx0y3", 0, 1, -3 - 5);
    for (int boat = 0; boat < 8; boat++) where("lw8a9e1s1" + EIGHT, boat, boat, 45 * boat / 7 - 5);
    GunLine g = Due.with("lw5a4e1s2u1;by0");
    g.go(1);
    Due.is("over: BACK as it is", g.where(0, 0), 4);
    Due.is("over: RECALLED anywhere", g.where(0, 1), 20 - 30);
    g.go(1);
    Due.is("at the gun", g.where(0, 0), 4);
    g = Due.with("lw5a4e1s4d1;by9;bx4y9");
    // by DRIFT it comes as far from COLUMN 0 as it can, up to the one that holds the END
    Due.is("DRIFT brings all of them there", g.where(0, 0), 0);
    Due.is("DRIFT brings all of them there", g.where(0, 1), 15 - 9);
  }

  private static void near(String water, int boat, int back, int score) {
    GunLine g = Due.with(water);
    Due.is("near(" + boat + ", 0) on " + water, g.near(boat, 0), back);
    Due.is("near(" + boat + ", 1) on " + water, g.near(boat, 1), score);
  }

  private static void nearBounds() {
    near("ls18;by0v1", 0, 18, 1);
    near("ls19;by0v1", 0, 19, 1);
    near("ls20;by0v1", 0, 0, 1 - 30);
    near("ls1;by19v0", 0, 0, 0);
    near("ls1;by0v0", 0, 0, 0);
    near("ls1;by9v1", 0, 1, 1);
    // 0 goes over, 1 is held, 2 to 4 stay in the shadow, 5 comes into it, 6 does not
    near("ls1;by9v1;by1", 0, 6, 1 - 5);
    // the seven CELLS from 0 are held, three more are in the shadow
    near("ls1;by19;by0;by1;by2;by3;by4;by5;by6", 0, 10, -10);
    near("ls1;by10;by0;by1;by2;by3;by4;by5;by6", 0, 10, -10);
    near("ls1;by19;bx1y0;bx1y1;bx1y2;bx1y3", 0, 0, 0);
    GunLine g = Due.with("ls1;by0v1");
    g.go(1);
    Due.is("from -1: 0 is the least", g.near(0, 0), 0);
    Due.is("on the line", g.near(0, 1), 1);
    g = Due.with("ls1f1;by0v1");
    g.go(1);
    Due.is("EARLY stays", g.near(0, 1), 1 - 100);
    Due.is("of several the lowest", g.near(0, 0), 0);
  }

  private static void hold(String water, int seconds, int score, String... rules) {
    GunLine g = Due.with(water, rules);
    Due.is("hold(0, 0) on " + water, g.hold(0, 0), seconds);
    Due.is("hold(0, 1) on " + water, g.hold(0, 1), score);
    Due.is("nothing changes", g.boat(0, 2), Due.with(water, rules).boat(0, 2));
  }

  private static void holdBounds() {
    hold("ls4;by9m3", 0, 3);
    hold("ls4;by8m3", 1, 3 - 2);
    hold("ls4;by5m3", 2, 2 - 2);
    hold("ls4;by3m3", 2, 2);
    hold("ls4;by2m3", 3, 1 - 1);
    hold("ls4;by1m3", 3, 1);
    hold("ls4;by0m3", 4, 0);
    hold("ls4;by9m1", 0, 1 - 5);
    hold("ls4;by4m1", 0, 1);
    hold("ls4;by3m1", 1, 1);
    hold("ls1;by0v3m3", 1, 0);
    hold("ls1;by3v3m3", 0, 3);
    hold("ls60;by0m1", 60, 0);
    hold("ls60;by1m1", 59, 1);
    hold("ls60;by19m1", 41, 1);
    hold("ls3u1;by0m1", 0, 1 - 30);
    // its RULE is not asked, those of others are
    hold("ls4;by9m3r0", 0, 3, "y:0-1");
    hold("ls2;by0m3r0", 2, 0, "y:1");
    hold("ls4;by9m3;bx1y9m3r0", 0, 3, "y:1");
    GunLine g = Due.with("ls4;by9m3v1");
    g.go(3);
    Due.is("one left", g.hold(0, 0), 0);
    Due.is("one left", g.hold(0, 1), 2 - 4);
    g.go(1);
    Due.is("none left", g.hold(0, 0), 0);
    Due.is("none left: as it is", g.hold(0, 1), 1 - 5);
  }

  private static void rowBounds() {
    GunLine g = Due.with("ls1;by3;by5;bx9y19;by13");
    for (int n : new int[] {-1, 0, 10, 11, Due.LEAST, Due.GREATEST}) Due.is("row(0, " + n + ")", g.row(0, n), Due.HIDDEN);
    // BACK 6 to 8 is in the shadow of the one at 5, 13 is the tenth
    int[] due = {-4, Due.HIDDEN, -6 - 5, -7 - 5, -8 - 5, -9, -10, -11, -12};
    for (int n = 1; n <= 9; n++) Due.is("row(0, " + n + ")", g.row(0, n), due[n - 1]);
    Due.is("row(1, 8): that CELL is held", g.row(1, 8), Due.HIDDEN);
    Due.is("row(1, 9)", g.row(1, 9), -14 - 5);
    Due.is("further than 19", g.row(2, 1), -20);
    Due.is("further than 19", g.row(2, 9), -28);
    g = Due.with("ls1;by0v1");
    g.go(1);
    Due.is("from -1 to the line", g.row(0, 1), 1);
    Due.is("from -1 to 8", g.row(0, 9), 1 - 8);
  }

  private static void tidesBounds() {
    for (int tide = 0; tide <= 9; tide++) for (int seconds : new int[] {1, 8, 9, 10, 20, 60}) {
      GunLine g = Due.with("lu" + tide + "s" + seconds + ";by5");
      for (int gone = 0; gone <= seconds; gone++) {
        int due = 0;
        for (int second = gone + 1; second <= seconds; second++) if (tide > 0 && second % tide == 0) due++;
        Due.is("TIDE " + tide + " of " + seconds + " behind " + gone, g.tides(), due);
        Due.is("so much", g.ahead(0, 1), g.boat(0, 1) - due);
        g.go(1);
      }
    }
  }

  private static void thirdBounds() {
    String[] thirds = {"01", "012", "0012", "00112", "001122", "0001122", "00011122", "000111222", "0000111222", "00001111222", "000011112222"};
    for (int width = 2; width <= 12; width++) for (int column = 0; column < width; column++) {
      GunLine g = Due.with("lw" + width + ";bx" + column);
      for (int third = 0; third < 3; third++) Due.is("WIDTH " + width + ", COLUMN " + column + ", third " + third, g.heap(third), thirds[width - 2].charAt(column) - '0' == third ? 1 : 0);
    }
    GunLine g = Due.with("lw20;bx0;bx6;bx7;bx13;bx14;bx19;bx19y6");
    Due.is("left of 20: 0 to 6", g.heap(0), 2);
    Due.is("middle of 20: 7 to 13", g.heap(1), 2);
    Due.is("right of 20: 14 to 19", g.heap(2), 3);
    for (int third : new int[] {-1, 3, Due.LEAST, Due.GREATEST}) Due.is("heap(" + third + ")", g.heap(third), Due.NONE);
  }

  private static void sag(String water, int above, int below) {
    GunLine g = Due.with(water);
    Due.is("sag(0) on " + water, g.sag(0), above);
    Due.is("sag(1) on " + water, g.sag(1), below);
    for (int what : NO_CHOICES) Due.is("sag(" + what + ")", g.sag(what), Due.HIDDEN);
  }

  private static void sagBounds() {
    sag("lw9;bx0y1", Due.HIDDEN, Due.HIDDEN);
    sag("lw9;bx4y1", Due.HIDDEN, Due.HIDDEN);
    sag("lw9;bx2y1;bx6y1", Due.HIDDEN, Due.HIDDEN);
    sag("lw9;bx3y1;bx5y1", Due.HIDDEN, Due.HIDDEN);
    sag("lw9;bx2y1;bx3y1", 0, 1);
    sag("lw9;bx6y1;bx5y1", 0, 1);
    sag("lw2;bx0y1;bx1y4", 3, 1);
    sag("lw9;bx3y3;bx4y3;bx5y4;bx0y1;bx1y1;bx2y1;bx6y2;bx7y2", 29, 15);
    sag("lw9;bx3y1;bx4y3;bx0y0;bx8y2", 1, 1);
    sag("lw9;bx3y0;bx4y1;bx0y1;bx1y1;bx7y2;bx8y2", -1, 1);
    sag("lw9;bx3y1;bx4y3;bx0y1;bx1y3;bx7y0;bx8y4", 0, 1);
    sag("lw9;bx3y0;bx4y0;bx0y1;bx1y0;bx2y0;bx8y0", -1, 4);
    sag("lw9;bx3y19;bx0y0", 19, 1);
    sag("lw9;bx3y0;bx0y19", -19, 1);
    GunLine g = Due.with("lw9s9;bx3y0v2;bx0y1");
    g.go(2);
    Due.is("over the line, as they are now", g.sag(0), -5);
    Due.is("over the line, as they are now", g.sag(1), 1);
  }

  private static void holeBounds() {
    GunLine g = Due.with("lw20;bx0y5;bx1y5;bx3y5;bx19y5;bx19y6;bx18y6;bx9y9");
    int[] due = {0, 0, 1, 15, 0, 18, 9};
    for (int boat = 0; boat < 7; boat++) Due.is("hole(" + boat + ")", g.hole(boat), due[boat]);
    g = Due.with("lw20s9;bx19y0v1;bx4y0v1;bx3y0");
    g.go(1);
    Due.is("over the line", g.hole(0), 14);
    Due.is("over the line", g.hole(1), 4);
    Due.is("on it", g.hole(2), 3);
  }

  private static void keepsBounds() {
    Due.is("now", Due.with("ls5;bx0y5;bx1y5").keeps(1), 0);
    Due.is("never", Due.with("ls5;bx0y5;bx1y6").keeps(1), Due.NONE);
    Due.is("to WINDWARD does not count", Due.with("ls5;bx0y5;bx1y5").keeps(0), Due.NONE);
    Due.is("no such COLUMN, the LINE does not go round", Due.with("lw5s5;bx0y5;bx4y5").keeps(0), Due.NONE);
    // four lengths by SPEED 1, three of them in the shadow: 9, 8 and then it stands; by SPEED 2: 9 7 6 5
    for (int seconds = 1; seconds <= 5; seconds++) {
      Due.is("of " + seconds, Due.with("ls" + seconds + ";bx0y9v2;bx1y5").keeps(1), seconds >= 3 ? 3 : Due.NONE);
      Due.is("of " + seconds, Due.with("ls" + seconds + ";bx0y9v1;bx1y5").keeps(1), Due.NONE);
    }
    GunLine g = Due.with("ls3;bx0y9v2;bx1y5");
    for (int gone = 0; gone < 4; gone++) {
      Due.is("behind " + gone, g.keeps(1), 3 - gone);
      g.go(1);
    }
    g = Due.with("ls3;bx0y9v2;bx1y4");
    g.go(3);
    Due.is("at the gun, not held", g.keeps(1), Due.NONE);
    // DRIFT carries it from COLUMN 0 to the right of another that cannot go
    g = Due.with("lw3s4d2;bx0y5;bx1y6v1;bx1y9");
    Due.is("no such COLUMN till it drifts, none there then", g.keeps(0), Due.NONE);
    g = Due.with("lw4s9d1;bx0y5;bx3y5");
    Due.is("DRIFT closes the hole", g.keeps(1), 2);
  }

  private static void whichBounds() {
    GunLine g = Due.with("lw16s9f1;by0v1;bx2y0v1;bx4y0v1;bx6y0v1;bx8y0v1;bx10y0v1;bx12y0v1;bx14y0v1");
    for (int what : new int[] {-2, -1, 3, 4, Due.LEAST, Due.GREATEST}) Due.is("which(" + what + ")", g.which(what), Due.NONE);
    Due.is("all are CLEAR", g.which(0), 255);
    Due.is("on the line is not OVER", g.which(1), 0);
    Due.is("none is OUT", g.which(2), 0);
    g.go(1);
    for (int what = 0; what < 3; what++) Due.is("all of them: which(" + what + ")", g.which(what), 255);
    g = Due.with("ls9;by8;by7;by6;by5;by4;by3;by2;by1");
    Due.is("the first one alone is CLEAR", g.which(0), 128);
  }

  // ---- thirds ------------------------------------------------------------------------------------------------

  private static int has(int[] row, int boat, int third, int askew, int end) {
    int others = 0;
    for (int i = 0; i < row.length; i++) if (i != boat && row[i] == third) others++;
    int[] worth = {0, 5 * askew / 2, 5 * askew};
    return worth[end == 1 ? third : 2 - third] - 2 * others;
  }

  private static List<int[]> restRows(int boats, int askew, int end) {
    List<int[]> found = new ArrayList<>();
    for (int n = 0; n < Math.pow(3, boats); n++) {
      int[] row = new int[boats];
      for (int i = boats - 1, rest = n; i >= 0; i--, rest /= 3) row[i] = rest % 3;
      boolean rests = true;
      for (int i = 0; i < boats; i++) for (int third = 0; third < 3; third++) if (has(row, i, third, askew, end) > has(row, i, row[i], askew, end)) rests = false;
      if (rests) found.add(row);
    }
    return found;
  }

  private static int digits(int[] row) { int n = 0; for (int third : row) n = 10 * n + third; return n; }

  private static void everyGameOfThirds() {
    for (int boats = 1; boats <= 5; boats++) for (int askew = 0; askew <= 9; askew++) for (int end = 0; end < 2; end++) {
      String water = "la" + askew + "e" + end + EIGHT.substring(0, boats == 1 ? 2 : 2 + 4 * (boats - 1));
      GunLine g = Due.with(water);
      List<int[]> rows = restRows(boats, askew, end);
      Due.is("rests(NONE) on " + water, g.rests(-1), rows.size());
      for (int i : new int[] {0, 1, rows.size() - 2, rows.size() - 1}) if (i >= 0 && i < rows.size()) Due.is("rests(" + i + ") on " + water, g.rests(i), digits(rows.get(i)));
      for (int i : new int[] {-2, rows.size(), rows.size() + 1, Due.LEAST, Due.GREATEST}) Due.is("rests(" + i + ") on " + water, g.rests(i), Due.NONE);
      Due.is("spread(0) on " + water, g.spread(0), 0);
      Due.is("spread(1) on " + water, g.spread(1), boats <= 3 ? 1 : 2);
      for (int what : NO_CHOICES) Due.is("spread(" + what + ")", g.spread(what), Due.NONE);
    }
  }

  private static void restsByHand() {
    GunLine g = Due.with("l" + EIGHT.substring(0, 18));
    Due.is("five, two of a third at the most", g.rests(-1), 90);
    Due.is("the first", g.rests(0), 112);
    Due.is("the last", g.rests(89), 22110);
    Due.is("no more", g.rests(90), Due.NONE);
    g = Due.with("la9e1;b");
    Due.is("one, at the better END", g.rests(-1), 1);
    Due.is("one, at the better END", g.rests(0), 2);
    g = Due.with("la9e0;b");
    Due.is("one, at the better END", g.rests(0), 0);
    // 5, 2, 0 (not 2 and a half): three in the left have 1 each, one has 2 in the middle, where a second one has 0 as in the right
    g = Due.with("la1" + EIGHT.substring(0, 18));
    Due.is("nobody has more, though alike", g.rests(0), 11);
  }

  private static void sixAreTooMany() {
    for (int boats = 6; boats <= 8; boats++) {
      GunLine g = Due.with("l" + EIGHT.substring(0, 2 + 4 * (boats - 1)));
      for (int i : new int[] {-2, -1, 0, 1, 999, Due.LEAST, Due.GREATEST}) Due.is(boats + " BOATS: rests(" + i + ")", g.rests(i), Due.HIDDEN);
      for (int what = 0; what < 2; what++) Due.is(boats + " BOATS: spread(" + what + ")", g.spread(what), Due.HIDDEN);
      for (int what : NO_CHOICES) Due.is(boats + " BOATS: spread(" + what + ")", g.spread(what), Due.NONE);
    }
  }

  // ---- duels -------------------------------------------------------------------------------------------------

  private static void duelBounds() {
    GunLine g = Due.with("ls1;b", "y:1", "y:0");
    for (int rule : new int[] {-2, -1, 2, 3, 4, Due.LEAST, Due.GREATEST}) for (int other = 0; other < 2; other++) {
      Due.is("duel(" + rule + ", " + other + ")", g.duel(rule, other), Due.HIDDEN);
      Due.is("duel(" + other + ", " + rule + ")", g.duel(other, rule), Due.HIDDEN);
      Due.is("reply(" + rule + ")", g.reply(rule), Due.NONE);
    }
    Due.is("1 SECOND: 1 less 8 against less 9 in the shadow", g.duel(0, 1), 7);
    Due.is("1 SECOND", g.duel(1, 0), -7);
    g = Due.with("ls60;b", "y:1", "y:0");
    Due.is("60 SECONDS: far over", g.duel(0, 1), 2 - 30 + 9);
    g = Due.with("l;b");
    Due.is("no RULE", g.duel(0, 0), Due.HIDDEN);
    Due.is("no RULE", g.reply(0), Due.NONE);
    Due.is("no RULE", g.strong(), Due.NONE);
    Due.feed(g, "y:1");
    g.text(1);
    Due.is("one RULE", g.duel(0, 0), 0);
    Due.is("one RULE", g.reply(0), 0);
    Due.is("one RULE", g.strong(), 0);
    g = Due.with("l;b", "y:0", "y:0", "y:0", "y:0");
    for (int rule = 0; rule < 4; rule++) Due.is("four alike: of several the lowest", g.reply(rule), 0);
    Due.is("four alike: of several the lowest", g.strong(), 0);
    Due.is("duel(3, 3)", g.duel(3, 3), 0);
    Due.is("reply(4)", g.reply(4), Due.NONE);
  }

  /** In COLUMN 0 against a RULE of 0, one SECOND: SPEED 1 if the CLAUSE holds, which is worth 7, else alike. */
  private static void duelBegins(String condition) {
    Due.is("in COLUMN 0: " + condition, Due.with("lw9a9e1u1d1s1f1;bx3y2v3m3z9", "y:" + condition + "?1", "y:0").duel(0, 1), 7);
  }

  private static void duelsBeginAsTold() {
    for (String condition : new String[] {"b=9", "t=1", "v=0", "x=0", "c=1", "w=0", "l=0"}) duelBegins(condition);
    GunLine g = Due.with("ls1;b", "y:x=1&l=1&b=9&v=0&c=1&w=0?1", "y:0");
    Due.is("in COLUMN 1", g.duel(1, 0), -7);
    Due.is("in COLUMN 0", g.duel(0, 1), 0);
    Due.is("against itself", g.duel(0, 0), -7);
    // 9 lengths: 1 and 2 and 2 and 2 and 2, no faster than MOST 2
    g = Due.with("ls5;b", "y:1", "y:0");
    Due.is("on the line by SPEED 2", g.duel(0, 1), 2 + 9);
    g = Due.with("ls6;b", "y:1", "y:0");
    Due.is("over it", g.duel(0, 1), 2 - 30 + 9);
    g.go(4);
    Due.is("from SECOND 0, though four have gone", g.duel(0, 1), 2 - 30 + 9);
  }

  private static void replyAndStrong() {
    // SECONDS 6: RULE 0 goes over, to -2; RULE 1 stays at 9; RULE 2 goes by 8 6 4 2 1 and stops
    GunLine g = Due.with("ls6;b", "y:1", "y:0", "y:b>2?1;y:0-1");
    Due.is("2 against 0, in its shadow", g.duel(2, 0), -1 - 5 - 2 + 30);
    Due.is("2 against 1", g.duel(2, 1), -1 + 9);
    Due.is("2 against itself", g.duel(2, 2), 0);
    for (int rule = 0; rule < 3; rule++) Due.is("reply(" + rule + ")", g.reply(rule), 2);
    Due.is("strong", g.strong(), 2);
    g = Due.with("ls6;b", "y:b>2?1;y:0-1", "y:1", "y:0");
    for (int rule = 0; rule < 3; rule++) Due.is("reply(" + rule + ")", g.reply(rule), 0);
    Due.is("strong", g.strong(), 0);
    // only in COLUMN 0 does RULE 1 go: as the one it wins, as the other it loses
    g = Due.with("ls5;b", "y:0", "y:x=0?1");
    Due.is("as the one", g.duel(1, 1), 11);
    Due.is("as the other", g.duel(0, 1), 0);
    Due.is("itself, too", g.strong(), 1);
    Due.is("reply to itself", g.reply(1), 1);
  }

  public static void main(String[] args) {
    noWater(); noSuchOnes(); aheadIsFromAsItIs(); whereBounds(); nearBounds(); holdBounds(); rowBounds(); tidesBounds();
    thirdBounds(); sagBounds(); holeBounds(); keepsBounds(); whichBounds();
    everyGameOfThirds(); restsByHand(); sixAreTooMany();
    duelBounds(); duelsBeginAsTold(); replyAndStrong();
    Due.finish();
  }
}
