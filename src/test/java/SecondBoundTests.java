/** Part 2 of the document and promises 6 to 15: the bounds of BOATS, of a SECOND, of what is done by hand, of draws and of ACTS. */
public final class SecondBoundTests {
  private static final int[] NO_BOATS_OF_TWO = {-1, 2, 3, 7, 8, Due.LEAST, Due.GREATEST};

  // ---- promises 6 and 7 --------------------------------------------------------------------------------------

  private static void noSuchBoatOrWhat() {
    GunLine g = new GunLine();
    for (int what = -1; what < 13; what++) Due.is("no WATER: boat(0, " + what + ") throws", Due.throwsAt(g, 0, what), true);
    for (int what = -1; what < 8; what++) Due.is("no WATER: line(" + what + ")", g.line(what), Due.NONE);
    g = Due.with("l;b;bx1");
    for (int boat : NO_BOATS_OF_TWO) for (int what = 0; what < 12; what++) Due.is("boat(" + boat + ", " + what + ") throws", Due.throwsAt(g, boat, what), true);
    for (int what : new int[] {-1, 12, 13, Due.LEAST, Due.GREATEST}) for (int boat = 0; boat < 2; boat++)
      Due.is("boat(" + boat + ", " + what + ") throws", Due.throwsAt(g, boat, what), true);
    for (int what = 0; what < 12; what++) for (int boat = 0; boat < 2; boat++) Due.is("boat(" + boat + ", " + what + ") throws", Due.throwsAt(g, boat, what), false);
    for (int what : new int[] {-1, 7, 8, Due.LEAST, Due.GREATEST}) Due.is("line(" + what + ")", g.line(what), Due.NONE);
    g = Due.with("l;b;bx1;bx2;bx3;bx4;bx5;bx6;bx7");
    Due.is("the eighth BOAT", g.boat(7, 0), 7);
    Due.is("boat(8, 0) throws", Due.throwsAt(g, 8, 0), true);
  }

  private static void believed() {
    for (int slip = 0; slip <= 9; slip++) {
      GunLine g = Due.with("ls9;by3z" + slip);
      Due.is("BACK 3 by SLIP " + slip, g.boat(0, 11), 8 - slip);
      g.mark(0);
      Due.is("with a MARK", g.boat(0, 11), 3);
    }
    Due.is("the greatest", Due.with("l;by19z0").boat(0, 11), 24);
    Due.is("below 0, though not over", Due.with("l;by0z9").boat(0, 11), -4);
    GunLine g = Due.with("ls9u1;by0z5");
    g.go(2);
    Due.is("over it", g.boat(0, 11), -2);
  }

  private static void shadowed() {
    for (int less = -5; less <= 5; less++) for (int aside = -3; aside <= 3; aside++) {
      if (less == 0 && aside == 0) continue;
      GunLine g = Due.with("l;bx5y9;bx" + (5 + aside) + "y" + (9 - less));
      boolean near = aside >= -1 && aside <= 1;
      int clear = (near && less >= 1 && less <= 3 ? 0 : 1) + (near && less <= -1 && less >= -3 ? 0 : 2);
      Due.is("CLEAR, the other " + less + " less and " + aside + " aside", g.which(0), clear);
      Due.is("less 5", g.boat(0, 9), -9 - (clear % 2 == 1 ? 0 : 5));
    }
    GunLine g = Due.with("lw5;bx0y5;bx4y4");
    Due.is("the LINE does not go round", g.which(0), 3);
    g = Due.with("ls1;by0v1;bx1y2;by3;bx2y0");
    g.go(1);
    // BACK -1, 2, 3, 0: three less than 2 across the line, four less than 3, but 0 and 2 are not of its COLUMNS
    Due.is("across the line", g.which(0), 1 + 8);
    g = Due.with("ls1;by0v1;by3");
    g.go(1);
    Due.is("four less across the line", g.which(0), 3);
  }

  private static void statusAndScore() {
    GunLine g = Due.with("ls12;by2v1;bx5y3;bx9y0");
    Due.boats("behind and on the line", g, 8, 0, 0, 0);
    Due.boats("less BACK, if above 0", g, 9, 1 - 2, -3, 0);
    g.go(2);
    Due.boats("on the line", g, 8, 0, 0, 0);
    Due.is("BACK 0 takes nothing", g.boat(0, 9), 1);
    g.go(1);
    Due.boats("over, FLAG 0", g, 8, 1, 0, 0);
    Due.is("BACK below 0 gives nothing", g.boat(0, 9), 1 - 30);
    g.go(9);
    Due.boats("far over, FLAG 0", g, 8, 1, 0, 0);
    Due.is("far over", g.boat(0, 9), 1 - 30);
    Due.boats("EARLY", g, 7, 1, 0, 0);
    Due.is("OUT is by FLAG 1 alone", g.which(2), 0);
    g = Due.with("ls12f1;by2v1;bx5y3;bx9y0");
    g.go(3);
    Due.boats("over, not EARLY, FLAG 1", g, 8, 2, 0, 0);
    g.undo();
    Due.boats("on the line, 10 left", g, 8, 0, 0, 0);
    g = Due.with("ls12f1;by1v1;bx5y3");
    g.go(2);
    Due.is("over, as 10 are left", g.boat(0, 1), -1);
    Due.boats("FLAG 1, not EARLY", g, 8, 0, 0);
    Due.is("neither RECALLED nor OUT", g.boat(0, 9), 1);
    Due.is("OVER", g.which(1), 1);
    Due.is("OUT", g.which(2), 0);
    g.go(1);
    Due.boats("as 9 are left", g, 8, 2, 0);
    Due.is("OUT", g.boat(0, 9), 1 - 100);
    Due.is("OUT", g.which(2), 1);
  }

  private static void scoreAlongTheLine() {
    for (int width : new int[] {2, 3, 4, 7, 19, 20}) for (int askew : new int[] {0, 1, 4, 9}) for (int end = 0; end < 2; end++)
      for (int column = 0; column < width; column++) {
        GunLine g = Due.with("lw" + width + "a" + askew + "e" + end + ";bx" + column + "y0");
        int from = end == 1 ? column : width - 1 - column;
        Due.is("WIDTH " + width + ", ASKEW " + askew + ", END " + end + ", COLUMN " + column, g.boat(0, 9), 5 * askew * from / (width - 1));
      }
    Due.is("the product first: 90 by 19", Due.with("lw20a1e1;bx18y0").boat(0, 9), 4);
    Due.is("0 at the worse END", Due.with("lw20a9e1;bx0y0").boat(0, 9), 0);
    Due.is("45 at the better END", Due.with("lw20a9e1;bx19y0").boat(0, 9), 45);
  }

  private static void places() {
    GunLine g = Due.with("lw8a0;b;bx1;bx2;bx3;bx4;bx5;bx6;bx7");
    Due.boats("alike: the lower number", g, 10, 1, 2, 3, 4, 5, 6, 7, 8);
    g = Due.with("lw16;by7;bx2y6;bx4y6;bx6y4;bx8y3;bx10y3;bx12y1;bx14y0");
    Due.boats("by SCORE", g, 10, 8, 6, 7, 5, 3, 4, 2, 1);
    Due.is("alone", Due.with("l;b").boat(0, 10), 1);
  }

  // ---- promises 8 to 12: by hand -----------------------------------------------------------------------------

  private static void ruleBounds() {
    GunLine g = Due.with("l;b;bx1r0");
    for (int rule : new int[] {-3, -2, 4, 5, Due.LEAST, Due.GREATEST}) Due.is("rule(0, " + rule + ")", g.rule(0, rule), Due.NONE);
    Due.is("rule(0, NONE), as it is", g.rule(0, -1), Due.NONE);
    Due.is("rule(1, 0), as it is", g.rule(1, 0), Due.NONE);
    for (int boat : NO_BOATS_OF_TWO) Due.is("rule(" + boat + ", 0)", g.rule(boat, 0), Due.NONE);
    Due.is("no ACT", g.count(7), 0);
    for (int rule = 0; rule < 4; rule++) {
      Due.is("rule(0, " + rule + "), not yet there", g.rule(0, rule), rule + 1);
      Due.is("boat(0, 5)", g.boat(0, 5), rule);
      Due.is("rule(0, " + rule + "), as it is", g.rule(0, rule), Due.NONE);
    }
    Due.is("rule(0, NONE)", g.rule(0, -1), 5);
    Due.is("boat(0, 5)", g.boat(0, 5), Due.NONE);
    Due.is("the other one has its own", g.boat(1, 5), 0);
    Due.is("no RULE is there by that", g.count(1), 0);
  }

  private static void aRuleNotYetThereIsNotAsked() {
    GunLine g = Due.with("ls9;by9v1r1;bx5y9v1r0", "y:1");
    g.go(1);
    Due.boats("RULE 1 is not there", g, 2, 1, 2);
    Due.feed(g, "y:0-1");
    g.text(1);
    g.go(1);
    Due.boats("RULE 1 is there", g, 2, 0, 2);
  }

  private static void markBounds() {
    GunLine g = Due.with("l;b;bx1");
    for (int boat : NO_BOATS_OF_TWO) Due.is("mark(" + boat + ")", g.mark(boat), Due.NONE);
    Due.is("mark(1)", g.mark(1), 1);
    Due.is("mark(1), it has one", g.mark(1), Due.NONE);
    Due.boats("MARKS", g, 6, 0, 1);
    Due.is("mark(0)", g.mark(0), 2);
    g.undo();
    g.undo();
    Due.is("mark(1) again", g.mark(1), 1);
  }

  private static void speedBounds() {
    for (int most = 1; most <= 3; most++) {
      GunLine g = Due.with("l;bm" + most + ";bx1");
      Due.is("speed(0, 0), as it is", g.speed(0, 0), Due.NONE);
      Due.is("speed(0, -1)", g.speed(0, -1), Due.NONE);
      Due.is("above MOST " + most, g.speed(0, most + 1), Due.NONE);
      for (int v : new int[] {4, 5, Due.LEAST, Due.GREATEST}) Due.is("speed(0, " + v + ")", g.speed(0, v), Due.NONE);
      for (int boat : NO_BOATS_OF_TWO) Due.is("speed(" + boat + ", 1)", g.speed(boat, 1), Due.NONE);
      Due.is("no ACT", g.count(7), 0);
      Due.is("at MOST", g.speed(0, most), 1);
      Due.is("at MOST, as it is", g.speed(0, most), Due.NONE);
      Due.boats("SPEED", g, 2, most, 0);
      Due.is("speed(0, 0)", g.speed(0, 0), 2);
      Due.boats("SPEED", g, 2, 0, 0);
    }
  }

  private static void steerBounds() {
    GunLine g = Due.with("lw3;by4;bx2y4;bx1y5");
    Due.is("left of COLUMN 0", g.steer(0, -1), Due.NONE);
    Due.is("right of the last COLUMN", g.steer(1, 1), Due.NONE);
    for (int by : new int[] {0, -2, 2, Due.LEAST, Due.GREATEST}) for (int boat = 0; boat < 3; boat++) Due.is("steer(" + boat + ", " + by + ")", g.steer(boat, by), Due.NONE);
    for (int boat : new int[] {-1, 3, 8, Due.LEAST, Due.GREATEST}) for (int by = -1; by < 2; by += 2) Due.is("steer(" + boat + ", " + by + ")", g.steer(boat, by), Due.NONE);
    Due.is("no ACT", g.count(7), 0);
    Due.is("the CELL of another BACK is free", g.steer(0, 1), 1);
    Due.is("the CELL is held", g.steer(0, 1), Due.NONE);
    Due.is("the CELL is held", g.steer(1, -1), Due.NONE);
    Due.is("one ACT", g.count(7), 1);
    Due.is("to COLUMN 0", g.steer(0, -1), 0);
    Due.is("to COLUMN 0", g.steer(2, -1), 0);
    Due.is("left of COLUMN 0", g.steer(2, -1), Due.NONE);
    Due.is("to COLUMN 1", g.steer(2, 1), 1);
    Due.is("to the last COLUMN", g.steer(2, 1), 2);
    Due.is("right of the last COLUMN", g.steer(2, 1), Due.NONE);
    g = Due.with("lw20;bx19");
    Due.is("COLUMN 20 is not there", g.steer(0, 1), Due.NONE);
    g = Due.with("lw2;b");
    Due.is("WIDTH 2", g.steer(0, 1), 1);
    Due.is("WIDTH 2", g.steer(0, 1), Due.NONE);
  }

  private static void gustBounds() {
    GunLine g = new GunLine();
    Due.is("0 at first", g.count(4), 0);
    for (int v : new int[] {-1, 0, 100, 101, Due.LEAST, Due.GREATEST}) {
      Due.is("gust(" + v + ")", g.gust(v), false);
      Due.is("stays", g.count(4), 0);
    }
    Due.is("gust(1)", g.gust(1), true);
    Due.is("gust(1), as it is", g.gust(1), false);
    Due.is("gust(99)", g.gust(99), true);
    Due.is("gust(100)", g.gust(100), false);
    Due.is("stays", g.count(4), 99);
    Due.is("gust(0)", g.gust(0), true);
    Due.is("0 again", g.count(4), 0);
  }

  // ---- promise 13: SECONDS go by -----------------------------------------------------------------------------

  private static void goBounds() {
    Due.is("no WATER", new GunLine().go(1), Due.NONE);
    Due.is("no WATER", new GunLine().blow(1, 1), Due.NONE);
    for (int seconds : new int[] {1, 2, 20, 59, 60}) for (int sort = 0; sort < 2; sort++) {
      GunLine g = Due.with("ls" + seconds + ";bv1");
      for (int n : new int[] {-1, 0, seconds + 1, 61, Due.LEAST, Due.GREATEST}) Due.is("of " + seconds + ": " + n, pass(g, sort, n), Due.NONE);
      Due.is("none has gone", g.count(3) * 100 + g.count(7), 0);
      Due.is("nothing moves", g.boat(0, 1), 5);
      Due.is("all of them", pass(g, sort, seconds), seconds);
      for (int n : new int[] {-1, 0, 1, 2}) Due.is("at the gun: " + n, pass(g, sort, n), Due.NONE);
      Due.is("as many lengths", g.boat(0, 1), 5 - seconds);
      g.undo();
      Due.is("2 of 1", pass(g, sort, 2), Due.NONE);
      Due.is("1 of 1", pass(g, sort, 1), seconds);
    }
  }
  private static int pass(GunLine g, int sort, int n) { return sort == 0 ? g.go(n) : g.blow(n, 1); }

  private static void speedIsWithinItsBounds() {
    for (int most = 1; most <= 3; most++) {
      GunLine g = Due.with("ls9;by19m" + most + "v0r0;bx5y19m" + most + "v" + most + "r1", "y:1", "y:0-1");
      for (int second = 1; second <= 5; second++) {
        g.go(1);
        Due.boats("MOST " + most + ", SECOND " + second, g, 2, Math.min(most, second), Math.max(0, most - second));
      }
    }
  }

  /** A RULE that asks whether a letter has its number; SPEED goes up from 0 to 1, if so. */
  private static void letter(String water, String letter, int want) {
    for (int off = -1; off <= 1; off++) {
      int asked = want + off;
      GunLine g = Due.with(water, "y:" + letter + "=" + (asked < 0 ? "0-" + -asked : asked) + "?1");
      g.go(1);
      Due.is(letter + " is " + asked + " on '" + water + "'", g.boat(0, 2), off == 0 ? 1 : 0);
    }
  }

  private static void lettersAtTheirBounds() {
    letter("l;by0z9r0", "b", -4);
    letter("l;by19z0r0", "b", 24);
    letter("l;by0z5r0", "b", 0);
    letter("ls60;br0", "t", 60);
    letter("ls1;br0", "t", 1);
    letter("lw20;br0x19", "x", 19);
    letter("lw20;br0x0", "x", 0);
    letter("l;br0", "c", 0);
    letter("lw9;bx4y9r0;bx3y0;bx3y1;bx3y9;bx4y0;bx4y19;bx5y0;bx5y9", "c", 7);
    letter("lw9;bx4y9r0;bx2y9;bx6y9", "c", 0);
    letter("lw9;bx4y9r0;bx3y0;bx5y19", "c", 2);
    letter("lw2;bx0y9r0;bx1y9", "c", 1);
    letter("l;bx4y9r0;bx4y8", "w", 1);
    letter("l;bx4y9r0;bx3y6", "w", 1);
    letter("l;bx4y9r0;bx5y5", "w", 0);
    letter("l;bx4y9r0;bx6y8", "w", 0);
    letter("l;bx4y9r0;bx4y10", "w", 0);
    letter("l;bx4y9r0;bx3y9", "l", 1);
    letter("l;bx4y9r0;bx5y9", "l", 0);
    letter("l;bx4y9r0;bx2y9", "l", 0);
    letter("l;bx4y9r0;bx3y8", "l", 0);
    letter("lw5;bx0y9r0;bx4y9", "l", 0);
    for (int v = 0; v <= 3; v++) {
      GunLine g = Due.with("l;by9m3r0v" + v, "y:v=" + v + "?0;y:0-1");
      g.go(1);
      Due.is("v is " + v, g.boat(0, 2), v);
    }
    // t as each SECOND began: 2, then 1
    GunLine g = Due.with("ls2;by9r0", "y:t=2?1;y:t=1?0-1");
    g.go(1);
    Due.is("two left", g.boat(0, 2), 1);
    g.go(1);
    Due.is("one left", g.boat(0, 2), 0);
  }

  private static void lettersAreAsTheSecondBegan() {
    // boats 0 and 1 go abreast: when boat 0 is asked, boat 1 is beside it as the SECOND began
    GunLine g = Due.with("ls9;bx1y9v2r0;bx0y9v2;bx1y3", "y:l=1?1;y:0-1");
    g.go(1);
    Due.boats("the CELL to LEEWARD was held", g, 2, 2, 2, 0);
    g.go(1);
    Due.boats("and is so again", g, 2, 2, 2, 0);
    g = Due.with("ls9;bx0y5v3m3;bx1y7v1r0", "y:w=1?1;y:0-1");
    g.go(1);
    Due.boats("SHADOWED as it began: SPEED 2 less 1", g, 1, 2, 6);
    g.go(1);
    Due.boats("CLEAR as it began, four behind: SPEED 1", g, 1, -1, 5);
    Due.boats("SPEED", g, 2, 3, 1);
  }

  private static void squeezed() {
    for (int speed = 0; speed <= 3; speed++) for (int ahead = 1; ahead <= 8; ahead++) {
      GunLine g = Due.with("ls9;by" + ahead + "v" + speed + "m3;by0");
      g.go(1);
      int lengths = Math.max(0, speed - (ahead <= 3 ? 1 : 0)), free = ahead - 1;
      Due.is("SPEED " + speed + ", " + ahead + " behind: BACK", g.boat(0, 1), ahead - Math.min(lengths, free));
      Due.is("SPEED " + speed + ", " + ahead + " behind: SPEED", g.boat(0, 2), lengths > free ? 0 : speed);
    }
    // a row of eight, each behind the other, the first one goes: all may go, the least BACK first
    GunLine g = Due.with("ls9;by8v2;by7v2;by6v2;by5v2;by4v2;by3v2;by2v2;by1v2");
    g.go(1);
    Due.boats("the least BACK first", g, 1, 7, 6, 5, 4, 3, 2, 1, -1);
    Due.boats("none is SQUEEZED", g, 2, 2, 2, 2, 2, 2, 2, 2, 2);
    // 9 comes behind 8 in the order, so that its CELL is free by then
    g = Due.with("ls9;by4v0;by9v3m3;by8v3m3");
    g.go(1);
    Due.boats("behind one that stays", g, 1, 4, 7, 5);
    Due.boats("neither was stopped", g, 2, 0, 3, 3);
    g.go(1);
    Due.boats("SQUEEZED", g, 1, 4, 6, 5);
    Due.boats("both are stopped", g, 2, 0, 0, 0);
    // the CELL ahead in another COLUMN stops nobody
    g = Due.with("ls9;bx1y9v1;bx0y8;bx2y8");
    g.speed(0, 2);
    g.go(1);
    Due.is("abreast", g.boat(0, 1), 8);
  }

  private static void tideBounds() {
    for (int tide = 0; tide <= 9; tide++) {
      GunLine g = Due.with("ls60u" + tide + ";by5;bx5y1");
      for (int second = 1; second <= 40; second++) {
        g.go(1);
        int gone = tide == 0 ? 0 : second / tide;
        Due.boats("TIDE " + tide + ", SECOND " + second, g, 1, 5 - gone, 1 - gone);
      }
    }
  }

  private static void eightBoatsGoToo() {
    GunLine g = Due.with("lw9s10u1d1;by0;bx1y0;bx2y0;bx3y0;bx4y0;bx5y0;bx6y0;bx7y0");
    g.go(1);
    Due.boats("TIDE", g, 1, -1, -1, -1, -1, -1, -1, -1, -1);
    Due.boats("DRIFT", g, 0, 1, 2, 3, 4, 5, 6, 7, 8);
    Due.boats("EARLY", g, 7, 1, 1, 1, 1, 1, 1, 1, 1);
  }

  private static void driftBounds() {
    for (int drift = 0; drift <= 9; drift++) {
      GunLine g = Due.with("lw7s60d" + drift + ";bx0;bx5y9");
      for (int second = 1; second <= 40; second++) {
        g.go(1);
        int gone = drift == 0 ? 0 : second / drift;
        Due.boats("DRIFT " + drift + ", SECOND " + second, g, 0, Math.min(6, gone), Math.min(6, 5 + gone));
      }
    }
    // the greatest COLUMN first: a row goes as one, and closes up at the LINE's end
    GunLine g = Due.with("lw5d1s9;bx0y1;bx1y1;bx2y1;bx3y2");
    g.go(1);
    Due.boats("as one", g, 0, 1, 2, 3, 4);
    g.go(1);
    Due.boats("the last one of another BACK stays", g, 0, 2, 3, 4, 4);
    g.go(1);
    Due.boats("the CELL is held", g, 0, 2, 3, 4, 4);
    g = Due.with("lw5d1s9;bx0y1;bx1y1;bx4y1;bx3y1;bx2y1");
    g.go(1);
    Due.boats("a full row stays", g, 0, 0, 1, 4, 3, 2);
    g = Due.with("lw2d1s9;bx0y1;bx1y2;bx0y2");
    g.go(1);
    Due.boats("WIDTH 2", g, 0, 1, 1, 0);
  }

  private static void tideThenDriftThenEarly() {
    GunLine g = Due.with("lw5s10u1d1f1;bx0y0;bx2y1");
    g.go(1);
    Due.boats("TIDE", g, 1, -1, 0);
    Due.boats("DRIFT", g, 0, 1, 3);
    Due.boats("EARLY in the same SECOND", g, 7, 1, 0);
    g.go(1);
    Due.boats("EARLY", g, 7, 1, 1);
  }

  private static void earlyBounds() {
    for (int seconds = 1; seconds <= 14; seconds++) {
      GunLine g = Due.with("ls" + seconds + ";by0v1;bx5y1v1;bx9y0");
      for (int gone = 1; gone <= seconds; gone++) {
        g.go(1);
        boolean late = seconds - gone <= 9;
        Due.boats(seconds - gone + " left", g, 7, late ? 1 : 0, late && gone >= 2 ? 1 : 0, 0);
      }
    }
    GunLine g = Due.with("ls9;by1v1");
    g.go(1);
    Due.is("on the line is not over", g.boat(0, 7), 0);
    g.go(1);
    Due.is("over", g.boat(0, 7), 1);
    g.undo();
    Due.is("undone", g.boat(0, 7), 0);
    g.speed(0, 0);
    g.go(8);
    Due.is("at the gun, on the line", g.boat(0, 7), 0);
  }

  // ---- promise 14: they BLOW ---------------------------------------------------------------------------------

  /** BOATS far from one another, without a RULE: SPEED by draws alone. */
  private static void drawsAreAsWorkedOut(long seed, int gust) {
    GunLine g = Due.with("lw20s60;bx0y19v1m1;bx4y19v0m2;bx8y19v3m3;bx12y19v1m3");
    g.gust(gust);
    int[] speed = {1, 0, 3, 1}, most = {1, 2, 3, 3}, back = {19, 19, 19, 19};
    for (int call = 0; call < 3; call++) {
      Due.Seed x = new Due.Seed(seed + call);
      for (int second = 0; second < 7; second++) for (int i = 0; i < 4; i++) {
        if (x.draw(100) < gust) speed[i] = x.draw(2) == 0 ? Math.max(0, speed[i] - 1) : Math.min(most[i], speed[i] + 1);
        back[i] -= speed[i];
      }
      Due.is("blow(7, " + (seed + call) + ")", g.blow(7, seed + call), 7 * call + 7);
      Due.boats("seed " + seed + ", GUST " + gust, g, 2, speed);
      Due.boats("seed " + seed + ", GUST " + gust, g, 1, back);
    }
  }

  private static void drawsGoRound() {
    long[] seeds = {0, 1, 2, -1, -2, 7, 1L << 33, (1L << 33) - 1, Long.MAX_VALUE, Long.MAX_VALUE - 1, Long.MIN_VALUE, Long.MIN_VALUE + 1, 6364136223846793005L, -1442695040888963407L};
    for (long seed : seeds) for (int gust : new int[] {0, 1, 50, 98, 99}) drawsAreAsWorkedOut(seed, gust);
  }

  private static void gustIsTheBoundOfADraw() {
    for (long seed = 0; seed < 400; seed++) {
      Due.Seed x = new Due.Seed(seed);
      int drawn = x.draw(100), turn = x.draw(2) == 0 ? -1 : 1;
      for (int gust = drawn; gust <= drawn + 1 && gust <= 99; gust++) {
        GunLine g = Due.with("ls9;by9v1m3");
        g.gust(gust);
        g.blow(1, seed);
        Due.is("a draw of " + drawn + " by GUST " + gust, g.boat(0, 2), drawn < gust ? 1 + turn : 1);
      }
    }
  }

  /** The RULE has spoken when the gust comes: MOST and a gust down leave one less than MOST. */
  private static void gustsComeBehindRules() {
    for (long seed = 0; seed < 40; seed++) {
      Due.Seed x = new Due.Seed(seed);
      boolean gusty = x.draw(100) < 99, down = x.draw(2) == 0;
      GunLine g = Due.with("ls9;by9v2m2r0", "y:1");
      g.gust(99);
      g.blow(1, seed);
      Due.is("up to MOST, then down", g.boat(0, 2), gusty && down ? 1 : 2);
      Due.is("and gone by it", g.boat(0, 1), gusty && down ? 8 : 7);
      g = Due.with("ls9;by9v0m3r0", "y:1");
      g.gust(99);
      g.blow(1, seed);
      Due.is("up by the RULE, then by the gust", g.boat(0, 2), !gusty ? 1 : down ? 0 : 2);
      g = Due.with("ls9;by9v0m2r0", "y:0-1");
      g.gust(99);
      g.blow(1, seed);
      Due.is("down to 0, then up", g.boat(0, 2), gusty && !down ? 1 : 0);
    }
  }

  // ---- promise 15: the latest 40 ACTS ------------------------------------------------------------------------

  private static void fortyActs() {
    GunLine g = Due.with("ls60w20;by19v0;bx9y19");
    Due.is("none at first", g.undo(), Due.NONE);
    for (int n = 1; n <= 45; n++) Due.is("ACT " + n, g.speed(0, n % 2), Math.min(40, n));
    Due.is("40 of them", g.count(7), 40);
    Due.is("mark at 40", g.mark(0), 40);
    Due.is("rule at 40", g.rule(0, 1), 40);
    Due.is("steer", g.steer(0, 1), 1);
    Due.is("go", g.go(3), 3);
    Due.is("blow", g.blow(3, 5), 6);
    Due.is("40 of them", g.count(7), 40);
    for (int left = 39; left >= 0; left--) {
      Due.is("undo", g.undo(), left);
      Due.is("still", g.count(7), left);
      // 54 ACTS in all: 14 and those left are done still
      if (left == 37) Due.is("three SECONDS are undone", g.count(3), 3);
      if (left == 34) Due.is("six SECONDS are undone", g.count(3) * 10 + g.boat(0, 0), 1);
      if (left == 33) Due.is("STEERED is undone", g.boat(0, 0) * 10 + g.boat(0, 5), 1);
      if (left == 32) Due.is("the RULE is undone", g.boat(0, 5) * 10 + g.boat(0, 6), Due.NONE * 10 + 1);
      if (left == 31) Due.is("the MARK is undone", g.boat(0, 6), 0);
      if (left <= 31) Due.is("SPEED of ACT " + (14 + left), g.boat(0, 2), (14 + left) % 2);
    }
    Due.is("none is left", g.undo(), Due.NONE);
    Due.is("and nothing changes", g.boat(0, 2), 0);
    Due.is("ACTS again", g.speed(0, 1), 1);
    Due.is("undone", g.undo(), 0);
    Due.is("SPEED", g.boat(0, 2), 0);
  }

  private static void exactlyFortyAndOneMore() {
    for (int acts : new int[] {39, 40, 41, 60}) {
      GunLine g = Due.with("ls60;by19v1");
      g.go(acts);
      Due.is("of " + acts, g.count(7), Math.min(40, acts));
      for (int left = Math.min(40, acts) - 1; left >= 0; left--) Due.is("undo", g.undo(), left);
      Due.is("one more", g.undo(), Due.NONE);
      Due.is("the SECOND", g.count(3), Math.max(0, acts - 40));
      Due.is("BACK", g.boat(0, 1), 19 - Math.max(0, acts - 40));
    }
  }

  private static void earlyIsUndoneAsItWas() {
    GunLine g = Due.with("ls9f1;by0v1;bx5y9");
    g.mark(1);
    g.go(1);
    g.speed(0, 2);
    g.undo();
    Due.boats("EARLY stays, if it was", g, 7, 1, 0);
    Due.boats("a MARK stays, if it was", g, 6, 0, 1);
    g.undo();
    Due.boats("EARLY is gone, if it was not", g, 7, 0, 0);
    Due.boats("a MARK stays, if it was", g, 6, 0, 1);
  }

  private static void anUndoneSecondTakesAllOfItBack() {
    GunLine g = Due.with("lw6s9u1d1f1;bx0y0v1r0;bx3y6v2;bx3y4;bx5y9", "y:0-1");
    int[][] was = new int[4][12];
    for (int i = 0; i < 4; i++) for (int what = 0; what < 12; what++) was[i][what] = g.boat(i, what);
    g.go(4);
    g.gust(9);
    for (int left = 3; left >= 0; left--) Due.is("undo", g.undo(), left);
    for (int i = 0; i < 4; i++) for (int what = 0; what < 12; what++) Due.is("boat(" + i + ", " + what + ")", g.boat(i, what), was[i][what]);
    Due.is("the SECOND", g.count(3), 0);
    Due.is("GUST is no ACT", g.count(4), 9);
  }

  public static void main(String[] args) {
    noSuchBoatOrWhat(); believed(); shadowed(); statusAndScore(); scoreAlongTheLine(); places();
    ruleBounds(); aRuleNotYetThereIsNotAsked(); markBounds(); speedBounds(); steerBounds(); gustBounds();
    goBounds(); speedIsWithinItsBounds(); lettersAtTheirBounds(); lettersAreAsTheSecondBegan(); squeezed(); tideBounds(); eightBoatsGoToo(); driftBounds();
    tideThenDriftThenEarly(); earlyBounds();
    drawsGoRound(); gustIsTheBoundOfADraw(); gustsComeBehindRules();
    fortyActs(); exactlyFortyAndOneMore(); earlyIsUndoneAsItWas(); anUndoneSecondTakesAllOfItBack();
    Due.finish();
  }
}
