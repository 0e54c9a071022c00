import java.util.Random;

/** Sentences of the document that other tests met by chance alone; each stands above its test, in the document's order. */
public final class SentenceTests {
  private static final String[] RULES = {"y:b-t", "y:w=1?0-1;y:c<2?1;y:0", "y:!l=1&t<6?b-2;y:t/3-v", "y:x>1|b>5?1;y:0-1"};

  // ---- part 1 ------------------------------------------------------------------------------------------------

  /** "CLAUSES with ; between: l (the LINE; one), b (a BOAT; 1 .. 8), in any order" */
  private static void theLineStandsAnywhere() {
    String[] boats = {"bx0", "bx1", "bx2", "bx3"};
    for (int at = 0; at <= boats.length; at++) {
      String s = "";
      for (int i = 0; i <= boats.length; i++) {
        if (i == at) s += (s.isEmpty() ? "" : ";") + "lw7";
        if (i < boats.length) s += (s.isEmpty() ? "" : ";") + boats[i];
      }
      GunLine g = Due.taped(s);
      Due.is("fault(0) of " + s, g.fault(0), Due.NONE);
      Due.is("text(0) of " + s, g.text(0), 4);
      Due.is("WIDTH by " + s, g.line(0), 7);
      Due.boats("BOATS in the order told by " + s, g, 0, 0, 1, 2, 3);
    }
  }

  /** "ITEMS, none or more: a letter, each once at most in a CLAUSE, and a number (one or two digits)" */
  private static void itemsInAnyOrder() {
    GunLine g = Due.with("l f1 s09 d8 u07 e1 a06 w05;b r3 z08 m03 v02 y04 x01;b m1 x2 v1");
    int[] line = {5, 6, 1, 7, 8, 9, 1};
    for (int what = 0; what < 7; what++) Due.is("line(" + what + ")", g.line(what), line[what]);
    int[] first = {1, 4, 2, 3, 8, 3}, second = {2, 5, 1, 1, 5, Due.NONE};
    for (int what = 0; what < 6; what++) {
      Due.is("boat(0, " + what + ")", g.boat(0, what), first[what]);
      Due.is("boat(1, " + what + ")", g.boat(1, what), second[what]);
    }
  }

  /** "ATOM: a number (1 to 4 digits), a letter (b t v x c w l), [ SUM ]" */
  private static void atoms() {
    for (char letter = 'a'; letter <= 'z'; letter++) Due.fault(1, "y:" + letter, "btvxcwl".indexOf(letter) >= 0 ? Due.NONE : 2);
    for (String number : new String[] {"0", "00", "000", "0000", "7", "0007", "9999"}) Due.fault(1, "y:" + number, Due.NONE);
    Due.fault(1, "y:00000", 6);
    Due.fault(1, "y:(b=1)=1?1", 7);
    Due.fault(1, "y:!(b=1)<2?1", 8);
    Due.fault(1, "y:[b=1]?1", 4);
    Due.fault(1, "y:b=1=1?1", 5);
  }

  // ---- promises 4 and 5 --------------------------------------------------------------------------------------

  /** "The FAULT of the TAPE": to ask for it tells nothing. */
  private static void askingForTheFaultTellsNothing() {
    GunLine g = Due.with("ls9;by9r0;bx5y9r1", "y:1", "y:0");
    Due.feed(g, "y:0-1");
    Due.is("no FAULT", g.fault(1), Due.NONE);
    Due.is("the FAULT as a WATER", g.fault(0), 0);
    g.go(1);
    Due.boats("by the RULES that are there", g, 2, 1, 0);
    g.end(0);
    Due.feed(g, "lw2s1a9;by1");
    Due.is("no FAULT", g.fault(0), Due.NONE);
    Due.is("WIDTH", g.line(0), 10);
    Due.is("SECONDS", g.line(5), 9);
    Due.is("BOATS", g.count(0), 2);
    Due.boats("BACK", g, 1, 8, 9);
  }

  /** "all that was of another one is gone but RULES, GUST" */
  private static void whatWasOfAnotherWaterIsGone() {
    GunLine g = Due.with("ls9u1f1;by0v1r1;bx5y9", "y:1");
    g.rule(0, 0);
    g.rule(1, 0);
    g.mark(0);
    g.mark(1);
    g.gust(40);
    g.go(2);
    g.image();
    Due.boats("EARLY", g, 7, 1, 0);
    Due.feed(g, "ls9;by9z3;bx5y9z4");
    g.text(0);
    Due.boats("no RULE told by hand", g, 5, Due.NONE, Due.NONE);
    Due.boats("no MARK", g, 6, 0, 0);
    Due.boats("not EARLY", g, 7, 0, 0);
    Due.boats("BELIEVED by SLIP", g, 11, 11, 10);
    Due.is("no ACT", g.undo(), Due.NONE);
    Due.is("no IMAGE", g.back(), Due.NONE);
    Due.is("TIDE", g.line(3), 0);
    Due.is("RULES", g.count(1), 1);
    Due.is("GUST", g.count(4), 40);
    g.go(1);
    Due.boats("no RULE is asked", g, 2, 0, 0);
    g.rule(0, 0);
    g.go(1);
    Due.boats("RULE 0 is still there", g, 2, 1, 0);
  }

  /** "a RULE: its number": nothing else changes by it. */
  private static void aRuleComesAndAllElseStays() {
    GunLine g = Due.with("ls2;by5v1;bx5y9", "y:0");
    g.image();
    g.go(2);
    g.mark(1);
    g.race();
    g.picture(0, -3, -2);
    for (int rule = 1; rule < 4; rule++) {
      Due.feed(g, "y:1");
      Due.is("its number", g.text(1), rule);
      Due.is("the SECOND", g.count(3), 2);
      Due.is("PICTURES", g.count(5), 1);
      Due.is("RACES", g.count(6), 1);
      Due.is("ACTS", g.count(7), 3);
      Due.is("POINTS", g.points(1), 2);
      Due.is("SURE", g.was(1), 1);
      Due.boats("BACK", g, 1, 3, 9);
      Due.boats("RULE", g, 5, Due.NONE, Due.NONE);
      Due.boats("MARK", g, 6, 0, 1);
    }
    Due.is("undo", g.undo(), 2);
    Due.is("the IMAGE", g.back(), 0);
    Due.boats("as in the IMAGE", g, 1, 5, 9);
  }

  // ---- part 2 ------------------------------------------------------------------------------------------------

  /** "WORTH of it, above 0: SPEED 1 more (MOST at most), below 0: 1 less (0 at least)" */
  private static void oneMoreOrLessWhateverTheWorth() {
    int[] up = {1, 2, 3, 3}, down = {2, 1, 0, 0};
    GunLine g = Due.with("lw20s9;bx0y19m3r0;bx5y19v3m3r1;bx10y19m3r2;bx15y19v3m3r3", "y:9999", "y:0-9999", "y:2", "y:0-2");
    for (int second = 0; second < 4; second++) {
      g.go(1);
      Due.boats("behind SECOND " + second, g, 2, up[second], down[second], up[second], down[second]);
    }
  }

  /** "letters, as the SECOND began: ... v SPEED": that of a SHADOWED one, too. */
  private static void theLetterVIsSpeedInAShadowToo() {
    GunLine g = Due.with("ls9;by5;by8v2m3r0;bx5y8v2m3r0", "y:v=2?1;y:0-1");
    Due.is("boat 1 is SHADOWED", g.which(0), 5);
    g.go(1);
    Due.boats("SPEED 2 each", g, 2, 0, 3, 3);
    Due.boats("one length less", g, 1, 5, 6, 5);
  }

  /** "as long as no BOAT is in that CELL: else it is SQUEEZED": over the line as well. */
  private static void squeezedOverTheLine() {
    GunLine g = Due.with("ls9u1;by0;by1m3");
    for (int over = 1; over < 5; over++) {
      g.speed(1, 3);
      g.go(1);
      Due.boats("the CELL ahead is held", g, 1, -over, 1 - over);
      Due.is("SPEED 0", g.boat(1, 2), 0);
    }
  }

  /** "Who is over, when 9 SECONDS or fewer are left, is EARLY from then on": further back as well. */
  private static void earlyFromThenOn() {
    GunLine g = Due.with("ls12f1;by0v1");
    g.go(4);
    g.speed(0, 0);
    Due.is("BACK", g.boat(0, 1), -4);
    Due.is("EARLY", g.boat(0, 7), 1);
    Due.is("NEAR: BACK 0", g.near(0, 0), 0);
    Due.is("NEAR: OUT there, too", g.near(0, 1), -100);
    for (int n = 1; n <= 9; n++) Due.is("row(0, " + n + ")", g.row(0, n), -100 - (n > 4 ? n - 4 : 0));
    Due.is("WHERE: OUT anywhere", g.where(0, 1), -100);
    Due.is("HOLD: OUT at once or later", g.hold(0, 1), -100 + 2);
  }

  /** "less 5 if SHADOWED, less 30 if RECALLED, less 100 if OUT": all that are so. */
  private static void shadowedOverTheLine() {
    GunLine g = Due.with("ls3u1;by0;by1;by4");
    g.go(3);
    Due.boats("BACK", g, 1, -3, -2, 1);
    Due.boats("FLAG 0", g, 9, -30, -35, -1 - 5);
    g = Due.with("ls3u1f1;by0;by1;by4");
    g.go(3);
    Due.boats("FLAG 1", g, 9, -100, -105, -1 - 5);
  }

  // ---- part 3 ------------------------------------------------------------------------------------------------

  private static void sameLooks(String when, GunLine g, GunLine twin) {
    for (int i = 0; i < g.count(0); i++) {
      for (int what = 0; what < 12; what++) Due.is(when + ": boat(" + i + ", " + what + ")", g.boat(i, what), twin.boat(i, what));
      for (int what = 0; what < 6; what++) Due.is(when + ": ahead(" + i + ", " + what + ")", g.ahead(i, what), twin.ahead(i, what));
      for (int what = 0; what < 2; what++) {
        Due.is(when + ": where(" + i + ", " + what + ")", g.where(i, what), twin.where(i, what));
        Due.is(when + ": near(" + i + ", " + what + ")", g.near(i, what), twin.near(i, what));
        Due.is(when + ": hold(" + i + ", " + what + ")", g.hold(i, what), twin.hold(i, what));
      }
      for (int n = 1; n < 10; n++) Due.is(when + ": row(" + i + ", " + n + ")", g.row(i, n), twin.row(i, n));
      Due.is(when + ": hole(" + i + ")", g.hole(i), twin.hole(i));
      Due.is(when + ": keeps(" + i + ")", g.keeps(i), twin.keeps(i));
      Due.is(when + ": flag(" + i + ")", g.flag(i), twin.flag(i));
    }
    for (int k = 0; k < 3; k++) {
      Due.is(when + ": sag(" + k + ")", g.sag(k), twin.sag(k));
      Due.is(when + ": heap(" + k + ")", g.heap(k), twin.heap(k));
      Due.is(when + ": which(" + k + ")", g.which(k), twin.which(k));
      Due.is(when + ": rests(" + (k - 1) + ")", g.rests(k - 1), twin.rests(k - 1));
      Due.is(when + ": spread(" + k + ")", g.spread(k), twin.spread(k));
    }
    Due.is(when + ": tides()", g.tides(), twin.tides());
  }

  private static String boatsAsTheyAre(GunLine g) {
    String s = "";
    for (int i = 0; i < g.count(0); i++)
      s += ";bx" + g.boat(i, 0) + "y" + g.boat(i, 1) + "v" + g.boat(i, 2) + "m" + g.boat(i, 3) + "z" + g.boat(i, 4) + "r" + (g.boat(i, 5) < 0 ? 4 : g.boat(i, 5));
    return s;
  }

  private static boolean noneOver(GunLine g) { return g.which(1) == 0; }

  /** "(Apart, from as it is, SECONDS by hand to the gun.)", "as they are now": as if they had been told so. */
  private static void fromAsItIs() {
    int compared = 0;
    for (int run = 0; run < 150; run++) {
      Random random = new Random(run);
      int width = 3 + random.nextInt(8), seconds = 4 + random.nextInt(8), boats = 2 + random.nextInt(5);
      String line = "lw" + width + "a" + random.nextInt(10) + "e" + random.nextInt(2) + "f" + random.nextInt(2), s = line + "s" + seconds;
      for (int i = 0; i < boats; i++) s += ";bx" + (i % width) + "y" + (8 + i + random.nextInt(3)) + "m3z" + random.nextInt(10) + "r" + random.nextInt(5);
      GunLine g = Due.taped(s);
      if (g.text(0) == Due.NONE) continue;
      for (String rule : RULES) { Due.feed(g, rule); g.text(1); }
      for (int i = 0; i < boats; i++) {
        g.steer(i, random.nextBoolean() ? 1 : -1);
        g.speed(i, random.nextInt(4));
        g.rule(i, random.nextInt(5) - 1);
      }
      g.go(1 + random.nextInt(3));
      for (int i = 0; i < boats; i++) g.steer(i, random.nextBoolean() ? 1 : -1);
      if (!noneOver(g)) continue;
      compared++;
      sameLooks("run " + run, g, Due.with(line + "s" + (seconds - g.count(3)) + boatsAsTheyAre(g), RULES));
    }
    Due.is("many were compared", compared > 80, true);
  }

  /** "SECONDS by hand": GUST is nothing to what is looked at apart, nor to go. */
  private static void noGustsApart() {
    for (int run = 0; run < 20; run++) {
      Random random = new Random(run);
      String s = "lw6a3d3u4s9";
      for (int i = 0; i < 5; i++) s += ";bx" + i + "y" + (3 + random.nextInt(9)) + "v" + random.nextInt(3) + "r" + random.nextInt(5);
      GunLine g = Due.with(s, RULES), twin = Due.with(s, RULES);
      g.gust(99);
      sameLooks("GUST 99", g, twin);
      for (int one = 0; one < 4; one++) {
        for (int other = 0; other < 4; other++) Due.is("duel(" + one + ", " + other + ")", g.duel(one, other), twin.duel(one, other));
        Due.is("reply(" + one + ")", g.reply(one), twin.reply(one));
      }
      Due.is("strong()", g.strong(), twin.strong());
      Due.is("season", g.season(20, run), twin.season(20, run));
      for (int i = 0; i < 5; i++) Due.is("points(" + i + ")", g.points(i), twin.points(i));
      g.go(4);
      twin.go(4);
      for (int i = 0; i < 5; i++) for (int what = 0; what < 3; what++) Due.is("boat(" + i + ", " + what + ")", g.boat(i, what), twin.boat(i, what));
    }
  }

  /** "with a MARK ashore BACK itself": in WHERE, NEAR, SECOND ROW as well. */
  private static void theMarkIsThereApart() {
    GunLine g = Due.with("ls1;by3z0r0", "y:b=3?1;y:b=5?1");
    Due.is("BELIEVED 8: it stays", g.where(0, 1), -3);
    Due.is("from 0 it goes over, as BELIEVED is 5", g.near(0, 0), 1);
    Due.is("from 1 it stays", g.near(0, 1), -1);
    g.mark(0);
    Due.is("WHERE: SPEED 1, BACK 2", g.where(0, 1), 1 - 2);
    Due.is("NEAR: BACK 0", g.near(0, 0), 0);
    Due.is("NEAR: it stays there", g.near(0, 1), 0);
    Due.is("SECOND ROW: SPEED 1, BACK 4", g.row(0, 2), 1 - 4);
    Due.is("SECOND ROW: it stays", g.row(0, 1), -4);
  }

  /** "TIDES: how much it does to all till the gun": to each of them, not to all together. */
  private static void tidesAreOfOne() {
    GunLine g = Due.with("ls9u2;by9;bx1y9;bx2y9;bx3y9");
    for (int second = 0; second <= 9; second++) {
      int tides = g.tides(), back = g.boat(3, 1);
      Due.is("TIDES in SECOND " + second, tides, 4 - second / 2);
      Due.is("as much as BACK will be less", back - g.ahead(3, 1), tides);
      g.go(1);
    }
  }

  /** "HEAP", "HOLE", "SAG: ... as they are now" */
  private static void shapeAsItIsNow() {
    GunLine g = Due.with("lw6s9d1u2;bx0y4;bx1y6;bx3y5");
    int[][] heaps = {{2, 1, 0}, {1, 1, 1}, {0, 2, 1}, {0, 1, 2}, {0, 0, 3}};
    int[][] holes = {{0, 1, 3}, {1, 2, 4}, {2, 3, 5}, {3, 4, 5}, {4, 5, 5}};
    int[][] sags = {{0, 1}, {3, 2}, {0, 1}, {-3, 2}, {Due.HIDDEN, Due.HIDDEN}};
    for (int second = 0; second < 5; second++) {
      for (int k = 0; k < 3; k++) {
        Due.is("heap(" + k + ") in SECOND " + second, g.heap(k), heaps[second][k]);
        Due.is("hole(" + k + ") in SECOND " + second, g.hole(k), holes[second][k]);
        if (k < 2) Due.is("sag(" + k + ") in SECOND " + second, g.sag(k), sags[second][k]);
      }
      g.go(1);
    }
  }

  /** "KEEPS: behind how many SECONDS ... is held first (not, if there is no such COLUMN)": it is not held in such SECONDS. */
  private static void keepsWithAColumnThatComesLater() {
    GunLine g = Due.with("lw2s4d1;by5;by7v2;bx1y6");
    // boat 0 drifts to COLUMN 1; boat 1 can't, as boat 2 is beside it; it goes a length each SECOND in the shadow
    Due.is("KEEPS", g.keeps(0), 2);
    g.go(1);
    Due.boats("COLUMNS", g, 0, 1, 0, 1);
    Due.boats("BACK", g, 1, 5, 6, 6);
    Due.is("KEEPS", g.keeps(0), 1);
    g.go(1);
    Due.boats("BACK", g, 1, 5, 5, 6);
    Due.is("KEEPS", g.keeps(0), 0);
    Due.is("with no such COLUMN", g.keeps(1), Due.NONE);
  }

  /** "STRONG: the RULE with the greatest sum of DUELS": not who wins the most of them. */
  private static void strongBySums() {
    GunLine g = Due.with("ls8;b", "y:1", "y:t<7?1;y:0-1", "y:b>4?1;y:0-1");
    // 0: over; 1: over against 0, held back by the shadow of 2; 2: stops at BACK 3
    int[][] due = {{0, 0, -25}, {0, 0, 9}, {25, -9, 0}};
    for (int one = 0; one < 3; one++) for (int other = 0; other < 3; other++) Due.is("duel(" + one + ", " + other + ")", g.duel(one, other), due[one][other]);
    Due.is("16 is more than 9", g.strong(), 2);
    Due.is("reply(0)", g.reply(0), 2);
    Due.is("reply(1): itself and 0 alike", g.reply(1), 0);
    Due.is("reply(2)", g.reply(2), 1);
  }

  // ---- part 4 ------------------------------------------------------------------------------------------------

  /** "CHAMPION: who has the fewest": asked at any SECOND; the BOOK is not UNDONE. */
  private static void theBookStaysAheadOfTheGun() {
    GunLine g = Due.with("ls3;by9;bx5y8;bx9y7");
    g.go(3);
    g.race();
    g.undo();
    g.undo();
    Due.is("CHAMPION", g.champion(), 2);
    Due.is("RACES", g.count(6), 1);
    for (int i = 0; i < 3; i++) Due.is("points(" + i + ")", g.points(i), 3 - i);
    Due.is("not at the gun", g.race(), Due.NONE);
  }

  /** "behind all it is as it was ahead": the IMAGE, PICTURES, ACTS as well. */
  private static void aSeasonLeavesAllElse() {
    GunLine g = Due.with("ls5f1u1;by2v1r0;bx5y9", "y:1");
    g.picture(1, -4, 4);
    g.image();
    g.mark(1);
    g.go(4);
    Due.is("season", g.season(7, 5), 7);
    Due.is("the SECOND", g.count(3), 4);
    Due.is("ACTS", g.count(7), 5);
    Due.is("PICTURES", g.count(5), 1);
    Due.is("COULD", g.was(0), 2);
    Due.boats("BACK", g, 1, 2 - 4 - 8, 5);
    Due.boats("SPEED", g, 2, 2, 0);
    Due.boats("MARK", g, 6, 0, 1);
    Due.boats("EARLY", g, 7, 1, 0);
    Due.is("undo", g.undo(), 4);
    Due.is("the IMAGE", g.back(), 0);
    Due.boats("BACK in the IMAGE", g, 1, 2, 9);
    Due.boats("SPEED in the IMAGE", g, 2, 1, 0);
    Due.boats("MARK in the IMAGE", g, 6, 0, 0);
    Due.is("RACES", g.count(6), 7);
  }

  /** "WHICH FLAG: FLAG (0, 1) with which a BOAT's PLACE at the gun is better": from as it is, not as it was told. */
  private static void whichFlagFromAsItIs() {
    GunLine g = Due.with("lw2s2a9;by3;bx1y9");
    Due.is("none comes over", g.flag(1), 0);
    g.speed(0, 2);
    // 45 + 2 - 30 is still ahead of -9, 45 + 2 - 100 is not
    Due.is("boat 0 comes over", g.flag(1), 1);
    Due.is("boat 0 itself", g.flag(0), 0);
    g.go(1);
    Due.is("a SECOND later", g.flag(1), 1);
    g.speed(0, 0);
    Due.is("boat 0 stops ahead of it", g.flag(1), 0);
    g.undo();
    g.steer(1, -1);
    Due.is("boat 1 has 45 as well: 45 - 9 is ahead anyway", g.flag(1), 0);
  }

  public static void main(String[] args) {
    theLineStandsAnywhere();
    itemsInAnyOrder();
    atoms();
    askingForTheFaultTellsNothing();
    whatWasOfAnotherWaterIsGone();
    aRuleComesAndAllElseStays();
    oneMoreOrLessWhateverTheWorth();
    theLetterVIsSpeedInAShadowToo();
    squeezedOverTheLine();
    earlyFromThenOn();
    shadowedOverTheLine();
    fromAsItIs();
    noGustsApart();
    theMarkIsThereApart();
    tidesAreOfOne();
    shapeAsItIsNow();
    keepsWithAColumnThatComesLater();
    strongBySums();
    theBookStaysAheadOfTheGun();
    aSeasonLeavesAllElse();
    whichFlagFromAsItIs();
    Due.finish();
  }
}
