import java.util.NoSuchElementException;

/** For each promise of the document, ordinary inputs, its edges and what it refuses; the answers are worked out by hand. */
public final class PromiseTests {
  private static int wrong = 0;
  private static final int NONE = -1, HIDDEN = -1000000;
  private static final int[] ODD = {-1, 8, 99, Integer.MIN_VALUE, Integer.MAX_VALUE};

  private static void due(int promise, String call, long got, long want) {
    if (got != want) { wrong++; System.out.println("promise " + promise + ": " + call + " answered " + got + ", due is " + want); }
  }
  private static void due(int promise, String call, boolean got, boolean want) { due(promise, call, got ? 1 : 0, want ? 1 : 0); }

  private static int feed(GunLine g, String s) {
    int answer = g.count(2);
    for (int i = 0; i < s.length(); i += 20) {
      int[] n = new int[5];
      for (int k = 0; k < 20; k++) n[k / 4] = n[k / 4] << 8 | (i + k < s.length() ? s.charAt(i + k) : 0);
      answer = g.feed(n[0], n[1], n[2], n[3], n[4]);
    }
    return answer;
  }
  /** A new object with a WATER and RULES. */
  private static GunLine with(String water, String... rules) {
    GunLine g = new GunLine();
    for (String rule : rules) { feed(g, rule); if (g.text(1) == NONE) { wrong++; System.out.println("no RULE: " + rule); } }
    feed(g, water);
    if (g.text(0) == NONE) { wrong++; System.out.println("no WATER: " + water); }
    return g;
  }
  private static int faultOf(int sort, String s) { GunLine g = new GunLine(); feed(g, s); return g.fault(sort); }
  private static void fault(int sort, String s, int want) { due(4, "fault(" + sort + ") of '" + s + "'", faultOf(sort, s), want); }
  private static boolean throwsAt(GunLine g, int boat, int what) {
    try { g.boat(boat, what); return false; } catch (NoSuchElementException e) { return true; }
  }
  private static void boats(int promise, GunLine g, int what, int... want) {
    for (int i = 0; i < want.length; i++) due(promise, "boat(" + i + ", " + what + ")", g.boat(i, what), want[i]);
  }
  private static String times(String s, int n) { String all = ""; for (int i = 0; i < n; i++) all += s; return all; }

  private static void newObject() {
    GunLine g = new GunLine();
    for (int what = 0; what < 8; what++) due(1, "count(" + what + ")", g.count(what), 0);
    due(1, "boat(0, 0) throws", throwsAt(g, 0, 0), true);
    for (int what = 0; what < 8; what++) due(1, "line", g.line(what), NONE);
    int[] none = {g.rule(0, 0), g.mark(0), g.speed(0, 1), g.steer(0, 1), g.go(1), g.blow(1, 1), g.undo(), g.tides(), g.heap(0), g.hole(0), g.keeps(0),
      g.which(0), g.rests(-1), g.spread(0), g.reply(0), g.strong(), g.picture(0, 0, 0), g.was(0), g.race(), g.points(0), g.champion(), g.season(1, 1), g.flag(0), g.image(), g.back()};
    for (int i = 0; i < none.length; i++) due(1, "without WATER, call " + i, none[i], NONE);
    int[] hidden = {g.ahead(0, 0), g.where(0, 0), g.near(0, 0), g.hold(0, 0), g.row(0, 1), g.sag(0), g.duel(0, 0)};
    for (int i = 0; i < hidden.length; i++) due(1, "without WATER, call " + i, hidden[i], HIDDEN);
    feed(g, "y:1");
    due(5, "a RULE without WATER", g.text(1), 0);
    due(29, "duel without WATER", g.duel(0, 0), HIDDEN);
    due(30, "reply without WATER", g.reply(0), NONE);
    due(31, "strong without WATER", g.strong(), NONE);
  }

  private static void tape() {
    GunLine g = new GunLine();
    due(2, "feed of noughts", g.feed(0, 0, 0, 0, 0), 0);
    due(2, "feed with gaps", g.feed(0x6c000000, 0x00003b00, 0x62, 0, 0), 3);
    due(4, "l;b", g.fault(0), NONE);
    due(2, "feed of bytes above 127", g.feed(-1, 0x80000000, 0, 0, 0xff), 9);
    due(4, "a byte of 255 is no sign", g.fault(0), 3);
    due(3, "end(10)", g.end(10), false);
    due(3, "end(-1)", g.end(-1), false);
    due(3, "end(MIN)", g.end(Integer.MIN_VALUE), false);
    due(3, "end(9), as it is", g.end(9), true);
    due(3, "end(1)", g.end(1), true);
    due(41, "count(2)", g.count(2), 1);
    due(3, "end(2) of 1", g.end(2), false);
    for (int i = 0; i < 11; i++) g.feed(0x20202020, 0x20202020, 0x20202020, 0x20202020, 0x20202020);
    due(2, "221", g.count(2), 221);
    due(2, "241 are too many", g.feed(0x20202020, 0x20202020, 0x20202020, 0x20202020, 0x20202020), NONE);
    due(2, "and change nothing", g.count(2), 221);
    due(2, "240 are not", g.feed(0x20202020, 0x20202020, 0x20202020, 0x20202020, 0x20202000), 240);
    due(2, "one more", g.feed(0, 0, 0, 0, 1), NONE);
    due(2, "none more", g.feed(0, 0, 0, 0, 0), 240);
    due(4, "ends too early", g.fault(0), 240);
  }

  private static void waterFaults() {
    for (int sort : new int[] {-1, 2, -2, Integer.MAX_VALUE, Integer.MIN_VALUE}) due(4, "fault(" + sort + ")", new GunLine().fault(sort), -2);
    fault(0, "", 0);
    fault(0, "   ", 3);
    fault(0, ";l;b", 0);
    fault(0, "l;b;", 4);
    fault(0, "l;b; ", 5);
    fault(0, "l;;b", 2);
    fault(0, "l b", 2);
    fault(0, "lb", 1);
    fault(0, "l;bw3", 3);
    fault(0, "lx3;b", 1);
    fault(0, "l;b;l", 4);
    fault(0, "l w 9 ; b x 8", NONE);
    fault(0, "  l;b  ", NONE);
    fault(0, "lw", 2);
    fault(0, "lw ", 3);
    fault(0, "lw;b", 2);
    fault(0, "lw1", 2);
    fault(0, "lw2;b", NONE);
    fault(0, "lw02;b", NONE);
    fault(0, "lw1 0;b", 2);
    fault(0, "lw10 0;b", 5);
    fault(0, "lw002;b", 4);
    fault(0, "lw991;b", 4);
    fault(0, "lw1000;b", 4);
    fault(0, "ls00;b", 3);
    fault(0, "ls60;b", NONE);
    fault(0, "la9;b", NONE);
    fault(0, "la10;b", 3);
    fault(0, "la09;b", NONE);
    fault(0, "ld10;b", 3);
    fault(0, "le1f1;b", NONE);
    fault(0, "lw5w5;b", 3);
    fault(0, "lw5a1w5;b", 5);
    fault(0, "bx19;lw20", NONE);
    fault(0, "bx19;lw19", 9);
    fault(0, "lw4;bx4", 7);
    fault(0, "lw4;bx4 ", 8);
    fault(0, "lw4;bx3", NONE);
    fault(0, "l;bv3", 5);
    fault(0, "l;bv2", NONE);
    fault(0, "l;bm1v2", 7);
    fault(0, "l;bv4", 4);
    fault(0, "l;br4", NONE);
    fault(0, "l;bx3y4;bx3y4", 13);
    fault(0, "l;bx3y4;bx3y5", NONE);
    fault(0, "l;bx3y4;bx4y4", NONE);
    fault(0, "b;bx1;bx2;bx3;bx4;bx5;bx6;bx7;l", NONE);
    fault(0, "l;b;bx1;bx2;bx3;bx4;bx5;bx6;bx7;b", 32);
    fault(0, "l;b;bx1;bx2;bx3;bx4;bx5;bx6;bx7;", 32);
    fault(0, "lw21;b", 3);
    fault(0, "ls61;b", 3);
    fault(0, "lu10;b", 3);
    fault(0, "le2;b", 2);
    fault(0, "lf2;b", 2);
    fault(0, "l;bx20", 5);
    fault(0, "l;by20", 5);
    fault(0, "l;by19", NONE);
    fault(0, "l;bm4", 4);
    fault(0, "l;bm0", 4);
    fault(0, "l;bz10", 5);
    fault(0, "l;bz9", NONE);
    fault(0, "l;br5", 4);
    fault(0, "l\t;b", 1);
    fault(0, "L;b", 0);
  }

  private static void ruleFaults() {
    fault(1, "", 0);
    fault(1, "y", 1);
    fault(1, "y:", 2);
    fault(1, " y : 1 ", NONE);
    fault(1, "y1", 1);
    fault(1, ":1", 0);
    fault(1, "y:1;", 4);
    fault(1, "y:1;y:2", NONE);
    fault(1, "y:1;;", 4);
    fault(1, "y:9999", NONE);
    fault(1, "y:10000", 6);
    fault(1, "y:00001", 6);
    fault(1, "y:1 2", 4);
    fault(1, "y:-1", 2);
    fault(1, "y:b+", 4);
    fault(1, "y:b+*", 4);
    fault(1, "y:b?1", 3);
    fault(1, "y:b&1", 3);
    fault(1, "y:b|1", 3);
    fault(1, "y:b=1", 5);
    fault(1, "y:b=1;y:1", 5);
    fault(1, "y:b=1?", 6);
    fault(1, "y:b=1?2", NONE);
    fault(1, "y:b=1=2?2", 5);
    fault(1, "y:b=1&c?2", 7);
    fault(1, "y:b=1&c<2|!w=1?t-1", NONE);
    fault(1, "y:b=1?c=2", 7);
    fault(1, "y:(b)?1", 4);
    fault(1, "y:(b=1)?1", NONE);
    fault(1, "y:(b=1)", 7);
    fault(1, "y:(b=1)+1", 7);
    fault(1, "y:(b=1?1", 6);
    fault(1, "y:!1", 4);
    fault(1, "y:!1=1?1", NONE);
    fault(1, "y:[b=1]", 4);
    fault(1, "y:[b", 4);
    fault(1, "y:[b]", NONE);
    fault(1, "y:[b]=1?1", NONE);
    fault(1, "y:[(b=1)]", 3);
    fault(1, "y:[]", 3);
    fault(1, "y:1+(b=1)", 4);
    fault(1, "y:a", 2);
    fault(1, "y:bt", 3);
    fault(1, "y:[[[[[[b]]]]]]", NONE);
    fault(1, "y:[[[[[[[b]]]]]]]", 8);
    fault(1, "y:!!!!!!b=1?1", NONE);
    fault(1, "y:!!!!!!!b=1?1", 8);
    fault(1, "y:((((((b=1))))))?1", NONE);
    fault(1, "y:(((((((b=1)))))))?1", 8);
    fault(1, "y:!([!", 5);
    fault(1, "y:!(!([[b]]=1))?1", NONE);
    fault(1, "y:!(!([[[b]]]=1))?1", 8);
    fault(1, "y:!(!([[b]+[[b]]]=1))?1", 12);
    fault(1, "y:[b]+[b]+[b]+[b]+[b]+[b]+[b]+[b]", NONE);
    fault(1, "y:!b=1&!b=1&!b=1&!b=1&!b=1&!b=1&!b=1&!b=1?1", NONE);
  }

  private static void texts() {
    GunLine g = new GunLine();
    for (int sort : new int[] {-1, 2, Integer.MAX_VALUE}) due(5, "text(" + sort + ")", g.text(sort), NONE);
    feed(g, "l;b,");
    due(5, "text(0) with a FAULT", g.text(0), NONE);
    due(5, "text(1) with a FAULT", g.text(1), NONE);
    due(5, "the TAPE stays", g.count(2), 4);
    g.end(3);
    due(5, "text(0)", g.text(0), 1);
    due(5, "the TAPE is empty", g.count(2), 0);
    for (int i = 0; i < 4; i++) { feed(g, "y:1"); due(5, "RULE", g.text(1), i); }
    feed(g, "y:1");
    due(5, "a fifth RULE", g.text(1), NONE);
    due(5, "the TAPE stays", g.count(2), 3);
    due(41, "RULES", g.count(1), 4);
    g.end(0);
    g.gust(7);
    g.mark(0);
    g.go(20);
    g.race();
    g.picture(0, 0, 0);
    g.image();
    feed(g, "l;bx1;b");
    due(5, "another WATER", g.text(0), 2);
    int[] counts = {2, 4, 0, 0, 7, 0, 0, 0};
    for (int what = 0; what < 8; what++) due(5, "count(" + what + ") then", g.count(what), counts[what]);
    due(5, "no MARK then", g.boat(0, 6), 0);
    due(5, "no POINTS then", g.points(0), 0);
    due(5, "no IMAGE then", g.back(), NONE);
    due(5, "nothing to undo", g.undo(), NONE);
    due(5, "no PICTURE then", g.was(0), 0);
    due(5, "no CHAMPION then", g.champion(), NONE);
  }

  private static void boatsAndLine() {
    GunLine g = with("l;b");
    int[] usual = {0, 5, 0, 2, 5, NONE, 0, 0, 0, -5, 1, 5};
    for (int what = 0; what < 12; what++) due(6, "boat(0, " + what + ")", g.boat(0, what), usual[what]);
    int[] usualLine = {10, 0, 0, 0, 0, 20, 0};
    for (int what = 0; what < 7; what++) due(7, "line(" + what + ")", g.line(what), usualLine[what]);
    g = with("l w 20 a 9 e 1 u 8 d 7 s 60 f 1; b r 3 z 9 m 3 v 2 y 19 x 18; b x 17 y 17");
    int[] told = {18, 19, 2, 3, 9, 3, 0, 0, 0, 5 * 9 * 18 / 19 + 2 - 19 - 5, 2, 15};
    for (int what = 0; what < 12; what++) due(6, "boat(0, " + what + ")", g.boat(0, what), told[what]);
    int[] toldLine = {20, 9, 1, 8, 7, 60, 1};
    for (int what = 0; what < 7; what++) due(7, "line(" + what + ")", g.line(what), toldLine[what]);
    due(7, "line(7)", g.line(7), NONE);
    for (int odd : ODD) {
      due(7, "line(" + odd + ")", g.line(odd), NONE);
      due(6, "boat(" + odd + ", 0) throws", throwsAt(g, odd, 0), true);
      due(6, "boat(0, " + (odd == 8 ? 12 : odd) + ") throws", throwsAt(g, 0, odd == 8 ? 12 : odd), true);
    }
    due(6, "boat(2, 0) throws", throwsAt(g, 2, 0), true);
    g.mark(0);
    due(6, "BELIEVED with a MARK", g.boat(0, 11), 19);
    // SHADOWED: one to three lengths, one COLUMN at the most
    g = with("lw9;bx4y5;bx5y6;bx3y8;bx4y9;bx6y2;bx8y5");
    due(26, "CLEAR", g.which(0), 1 + 16 + 32);
    g = with("lw9;bx4y5;bx4y9");
    due(26, "four lengths behind is CLEAR", g.which(0), 3);
    g = with("lw9;bx4y5;bx6y6");
    due(26, "two COLUMNS off is CLEAR", g.which(0), 3);
    g = with("lw9;bx4y5;bx5y5");
    due(26, "abreast is CLEAR", g.which(0), 3);
    // SCORE: by COLUMNS from the worse END, the product first; PLACE: of several the lowest
    g = with("lw4a1e0;bx0y0;bx1y4;bx2y9;bx3y14");
    boats(6, g, 9, 5, 3 - 4, 1 - 9, -14);
    boats(6, g, 10, 1, 2, 3, 4);
    g = with("lw4a1e1;bx0y0;bx1y4;bx2y9;bx3y14");
    boats(6, g, 9, 0, 1 - 4, 3 - 9, 5 - 14);
    g = with("l;bx0;bx3;bx6");
    boats(6, g, 10, 1, 2, 3);
  }

  private static void byHand() {
    GunLine g = with("lw3;by3v1r2;bx1y3;bx1y4m3");
    due(8, "rule(0, 2), as it is", g.rule(0, 2), NONE);
    due(8, "rule(0, 4)", g.rule(0, 4), NONE);
    due(8, "rule(0, -2)", g.rule(0, -2), NONE);
    due(8, "rule(1, NONE), as it is", g.rule(1, NONE), NONE);
    due(8, "rule(0, NONE)", g.rule(0, NONE), 1);
    due(8, "boat(0, 5)", g.boat(0, 5), NONE);
    due(8, "rule(0, 3), not there yet", g.rule(0, 3), 2);
    due(9, "mark(1)", g.mark(1), 3);
    due(9, "mark(1) again", g.mark(1), NONE);
    boats(9, g, 6, 0, 1, 0);
    due(10, "speed(0, 1), as it is", g.speed(0, 1), NONE);
    due(10, "speed(0, 3), above its MOST", g.speed(0, 3), NONE);
    due(10, "speed(2, 3)", g.speed(2, 3), 4);
    due(10, "speed(0, -1)", g.speed(0, -1), NONE);
    due(10, "speed(0, 0)", g.speed(0, 0), 5);
    boats(10, g, 2, 0, 0, 3);
    due(11, "steer(0, 1), held", g.steer(0, 1), NONE);
    due(11, "steer(0, -1), no COLUMN", g.steer(0, -1), NONE);
    due(11, "steer(1, 1)", g.steer(1, 1), 2);
    due(11, "steer(1, 1), no COLUMN", g.steer(1, 1), NONE);
    due(11, "steer(0, 1)", g.steer(0, 1), 1);
    due(11, "steer(0, 0)", g.steer(0, 0), NONE);
    due(11, "steer(0, -2)", g.steer(0, -2), NONE);
    due(41, "ACTS", g.count(7), 7);
    for (int odd : ODD) {
      due(8, "rule(" + odd + ", 1)", g.rule(odd, 1), NONE);
      due(9, "mark(" + odd + ")", g.mark(odd), NONE);
      due(10, "speed(" + odd + ", 1)", g.speed(odd, 1), NONE);
      due(11, "steer(" + odd + ", 1)", g.steer(odd, 1), NONE);
      due(11, "steer(0, by)", g.steer(0, odd == -1 ? 5 : odd), NONE);
    }
    due(41, "what is refused is no ACT", g.count(7), 7);
    for (int left = 6; left >= 0; left--) due(15, "undo", g.undo(), left);
    due(15, "undo of none", g.undo(), NONE);
    boats(15, g, 0, 0, 1, 1);
    boats(15, g, 2, 1, 0, 0);
    boats(15, g, 5, 2, NONE, NONE);
    boats(15, g, 6, 0, 0, 0);
    due(12, "gust(0), as it is", g.gust(0), false);
    due(12, "gust(100)", g.gust(100), false);
    due(12, "gust(-1)", g.gust(-1), false);
    due(12, "gust(99)", g.gust(99), true);
    due(12, "gust(99), as it is", g.gust(99), false);
    due(12, "gust(0)", g.gust(0), true);
    due(12, "GUST is no ACT", g.count(7), 0);
  }

  private static void undoing() {
    GunLine g = with("ls60;by5v0");
    g.speed(0, 1);
    g.speed(0, 2);
    due(13, "go(39)", g.go(39), 39);
    due(41, "40 ACTS at most", g.count(7), 40);
    g.speed(0, 0);
    due(41, "40 ACTS at most", g.count(7), 40);
    for (int left = 39; left >= 0; left--) due(15, "undo", g.undo(), left);
    due(15, "undo of none", g.undo(), NONE);
    due(15, "the SECOND then", g.count(3), 0);
    due(15, "SPEED then", g.boat(0, 2), 2);
    due(15, "BACK then", g.boat(0, 1), 5);
    g.go(60);
    due(41, "of 60 SECONDS", g.count(7), 40);
    for (int i = 0; i < 40; i++) g.undo();
    due(15, "the SECOND is 20", g.count(3), 20);
    due(15, "BACK is", g.boat(0, 1), 5 - 40);
    due(15, "undo of none", g.undo(), NONE);
    g = with("ls3f1;by0v1");
    g.go(1);
    due(15, "EARLY", g.boat(0, 7), 1);
    g.undo();
    due(15, "EARLY is undone", g.boat(0, 7), 0);
    g.gust(50);
    g.blow(2, 5);
    due(15, "each SECOND is an ACT", g.undo(), 1);
    due(15, "the SECOND", g.count(3), 1);
  }

  private static void seconds() {
    GunLine g = with("ls3;by9v2");
    due(13, "go(0)", g.go(0), NONE);
    due(13, "go(4)", g.go(4), NONE);
    due(13, "go(-1)", g.go(-1), NONE);
    due(13, "go(MAX)", g.go(Integer.MAX_VALUE), NONE);
    due(13, "go(2)", g.go(2), 2);
    due(13, "go(2) of 1", g.go(2), NONE);
    due(13, "go(1)", g.go(1), 3);
    due(13, "go(1) at the gun", g.go(1), NONE);
    due(13, "BACK", g.boat(0, 1), 3);
    // SQUEEZED: it stops behind the other and has SPEED 0
    g = with("l;by5v0;by8v2m2");
    g.go(1);
    boats(13, g, 1, 5, 7);
    boats(13, g, 2, 0, 2);
    g.go(1);
    boats(13, g, 1, 5, 6);
    boats(13, g, 2, 0, 2);
    g.go(1);
    boats(13, g, 1, 5, 6);
    boats(13, g, 2, 0, 0);
    // the least BACK goes first: who is behind finds the CELL free
    g = with("l;by6v2;by5v2");
    g.go(1);
    boats(13, g, 1, 5, 3);
    boats(13, g, 2, 2, 2);
    // SPEED 0 in a shadow stays 0 lengths
    g = with("l;by5;by6");
    g.go(1);
    boats(13, g, 1, 5, 6);
    // TIDE each third SECOND, also over the line; DRIFT each second one, the greatest COLUMN first, in a row
    g = with("lw4u3d2s20;bx0y1;bx1y1;bx3y1");
    g.go(1);
    boats(13, g, 0, 0, 1, 3);
    g.go(1);
    boats(13, g, 0, 1, 2, 3);
    boats(13, g, 1, 1, 1, 1);
    g.go(1);
    boats(13, g, 1, 0, 0, 0);
    g.go(1);
    boats(13, g, 0, 1, 2, 3);
    g.go(2);
    boats(13, g, 1, -1, -1, -1);
    // EARLY: from 9 SECONDS left on, for good
    g = with("ls11f1;by0v1;bx9y1v1");
    g.go(1);
    boats(13, g, 7, 0, 0);
    boats(6, g, 8, 0, 0);
    due(26, "OVER", g.which(1), 1);
    due(26, "OUT", g.which(2), 0);
    g.go(1);
    boats(13, g, 7, 1, 1);
    boats(6, g, 8, 2, 2);
    due(26, "OUT", g.which(2), 3);
    boats(6, g, 9, 1 - 100, 1 - 100);
    g = with("ls11f0;by0v1;bx9y1v0");
    g.go(1);
    boats(6, g, 8, 1, 0);
    boats(6, g, 9, 1 - 30, -1);
    for (int odd : new int[] {-1, 3, Integer.MAX_VALUE, Integer.MIN_VALUE}) due(26, "which(" + odd + ")", g.which(odd), NONE);
  }

  /** The SPEED behind one SECOND tells whether a RULE was above 0 (2), 0 (1) or below (0). */
  private static void worth(String water, String rule, int want) {
    GunLine g = with(water, rule);
    g.go(1);
    due(13, "SPEED by '" + rule + "' on '" + water + "'", g.boat(0, 2), want);
  }

  private static void rules() {
    String w = "lw9s20;bx4y9v1r0";
    worth(w, "y:1", 2);
    worth(w, "y:0", 1);
    worth(w, "y:0-1", 0);
    worth(w, "y:b=9?1", 2);
    worth(w, "y:t=20?1", 2);
    worth(w, "y:v=1?1", 2);
    worth(w, "y:x=4?1", 2);
    worth(w, "y:c=0?1", 2);
    worth(w, "y:w=0?1", 2);
    worth(w, "y:l=0?1", 2);
    worth("lw9;bx4y9v1z2r0", "y:b=12?1", 2);
    String crowd = "lw9;bx4y9v1r0;bx3y9;bx5y8;bx4y2;bx6y9";
    worth(crowd, "y:c=3?1", 2);
    worth(crowd, "y:w=1?1", 2);
    worth(crowd, "y:l=1?1", 2);
    worth("lw9;bx0y9v1r0;bx1y9", "y:l=0?1", 2);
    worth(w, "y:b<9?1;y:b>9?1;y:0-1", 0);
    worth(w, "y:b=8?1", 1);
    worth(w, "y:b=9?0;y:1", 1);
    worth(w, "y:7/2-3", 1);
    worth(w, "y:[0-7]/2+3", 1);
    worth(w, "y:5/0", 1);
    worth(w, "y:5/0+1", 2);
    worth(w, "y:2-1-1", 1);
    worth(w, "y:8/4/2-1", 1);
    worth(w, "y:8/[4/2]-4", 1);
    worth(w, "y:2+3*4-14", 1);
    worth(w, "y:9999*9999-9999*100-100", 1);
    worth(w, "y:9999*9999=1000*1000?1", 2);
    worth(w, "y:0-9999*9999=0-1000*1000?1", 2);
    worth(w, "y:1000*1000+1=1000*1000?1", 2);
    worth(w, "y:0-1000*1000-1=0-1000*1000?1", 2);
    worth(w, "y:9999*9999*[0-1]<0?1", 2);
    worth(w, "y:b=9&v=2?1", 1);
    worth(w, "y:b=9&v=1?1", 2);
    worth(w, "y:b=9|v=2?1", 2);
    worth(w, "y:b=8|v=2?1", 1);
    worth(w, "y:v=1|b=9&b=8?1", 2);
    worth(w, "y:(v=1|b=9)&b=8?1", 1);
    worth(w, "y:!v=1|b=9?1", 2);
    worth(w, "y:!(v=1|b=9)?1", 1);
    worth(w, "y:!!v=1?1", 2);
    worth(w, "y:!v=1&v=2?1", 1);
    worth(w, " y : [ b - 9 ] * 4 + 1 = 1 ? 2 - 1 ; y : 0 ", 2);
    worth("l;by9v2r0", "y:1", 2);
    worth("l;by9v0r0", "y:0-1", 0);
    worth("l;by9v1r1", "y:1", 1);
    // letters as the SECOND began, for all; the RULE that comes later is asked from then on
    GunLine g = with("ls9;by9v0r0");
    g.go(1);
    due(13, "no RULE yet", g.boat(0, 2), 0);
    feed(g, "y:1");
    g.text(1);
    g.go(1);
    due(13, "RULE asked", g.boat(0, 2), 1);
    due(13, "and gone by it", g.boat(0, 1), 8);
    g.mark(0);
    g.rule(0, NONE);
    g.go(1);
    due(13, "no RULE again", g.boat(0, 2), 1);
    g = with("ls9;by9v1z0r0", "y:b=9?1");
    g.mark(0);
    g.go(1);
    due(9, "BELIEVED by a MARK", g.boat(0, 2), 2);
  }

  private static void blowing() {
    GunLine g = with("ls3;by9v2");
    due(14, "blow(0)", g.blow(0, 1), NONE);
    due(14, "blow(4)", g.blow(4, 1), NONE);
    due(14, "blow(2), no GUST", g.blow(2, 1), 2);
    due(14, "as by hand", g.boat(0, 1), 5);
    due(14, "blow(2) of 1", g.blow(2, 1), NONE);
    // the draws worked out here, by the document's numbers
    long[] seeds = {0, 1, -1, 77, Long.MIN_VALUE, 123456789012345L};
    for (long seed : seeds) {
      g = with("ls9w20;bx0y19v1;bx9y19v1m3");
      g.gust(60);
      due(14, "blow(5)", g.blow(5, seed), 5);
      long x = seed;
      int[] speed = {1, 1}, most = {2, 3}, back = {19, 19};
      for (int second = 0; second < 5; second++) {
        for (int i = 0; i < 2; i++) {
          x = x * 6364136223846793005L + 1442695040888963407L;
          if ((x >>> 33) % 100 < 60) {
            x = x * 6364136223846793005L + 1442695040888963407L;
            speed[i] = (x >>> 33) % 2 == 0 ? Math.max(0, speed[i] - 1) : Math.min(most[i], speed[i] + 1);
          }
        }
        for (int i = 0; i < 2; i++) back[i] -= speed[i];
      }
      boats(14, g, 2, speed);
      boats(14, g, 1, back);
    }
  }

  private static void lookingAhead() {
    GunLine g = with("lw4a2u4s6;bx0y3v1r0;bx2y4;bx1y6v2z7m2");
    int[][] gun = new int[3][6];
    g.go(1);
    g.go(5);
    for (int i = 0; i < 3; i++) for (int k = 0; k < 3; k++) gun[i][k] = g.boat(i, k);
    for (int i = 0; i < 3; i++) for (int k = 3; k < 6; k++) gun[i][k] = g.boat(i, k + 5);
    for (int undone = 0; undone < 6; undone++) g.undo();
    for (int i = 0; i < 3; i++) for (int k = 0; k < 6; k++) due(16, "ahead(" + i + ", " + k + ")", g.ahead(i, k), gun[i][k]);
    due(16, "nothing changes", g.count(3), 0);
    due(16, "nothing changes", g.boat(0, 1), 3);
    for (int odd : ODD) {
      due(16, "ahead(" + odd + ", 0)", g.ahead(odd, 0), HIDDEN);
      due(16, "ahead(0, " + odd + ")", g.ahead(0, odd), HIDDEN);
      due(17, "where(" + odd + ", 0)", g.where(odd, 0), HIDDEN);
      due(17, "where(0, " + odd + ")", g.where(0, odd), HIDDEN);
      due(18, "near(" + odd + ", 0)", g.near(odd, 0), HIDDEN);
      due(18, "near(0, " + odd + ")", g.near(0, odd), HIDDEN);
      due(19, "hold(" + odd + ", 0)", g.hold(odd, 0), HIDDEN);
      due(19, "hold(0, " + odd + ")", g.hold(0, odd), HIDDEN);
      due(20, "row(" + odd + ", 1)", g.row(odd, 1), HIDDEN);
    }
    due(16, "ahead(0, 6)", g.ahead(0, 6), HIDDEN);
    due(17, "where(0, 2)", g.where(0, 2), HIDDEN);
    due(18, "near(0, 2)", g.near(0, 2), HIDDEN);
    due(19, "hold(0, 2)", g.hold(0, 2), HIDDEN);
    due(20, "row(0, 0)", g.row(0, 0), HIDDEN);
    due(20, "row(0, 10)", g.row(0, 10), HIDDEN);
    // WHERE: the better END, if it is free
    g = with("lw5a4e1s2;bx0y2;bx4y2");
    due(17, "where: the END is held", g.where(0, 0), 3);
    due(17, "its SCORE", g.where(0, 1), 15 - 2);
    due(17, "where: its own CELL", g.where(1, 0), 4);
    due(17, "its SCORE", g.where(1, 1), 20 - 2);
    g = with("lw5s2;bx3y2");
    due(17, "where: of several the lowest", g.where(0, 0), 0);
    due(17, "nothing changes", g.boat(0, 0), 3);
    // NEAR: on the line at the gun; of several the lowest; not where another is
    g = with("ls4;by9v2");
    due(18, "near", g.near(0, 0), 8);
    due(18, "its SCORE", g.near(0, 1), 2);
    g = with("ls1f1;by9v1;bx9y0v1");
    g.go(1);
    due(18, "EARLY as it is", g.near(1, 1), 1 - 100);
    due(18, "though it could be anywhere, 0 is the lowest of the best", g.near(1, 0), 0);
    due(18, "at the gun", g.near(0, 0), 0);
    due(18, "at the gun", g.near(0, 1), 1);
    g = with("ls1;by9v0;by0v0");
    due(18, "0 is held", g.near(0, 0), 4);
    due(18, "four behind it is CLEAR", g.near(0, 1), -4);
    due(18, "its own CELL", g.near(1, 0), 0);
    g = with("ls19;by5v1");
    due(18, "as far as 19", g.near(0, 0), 19);
    due(18, "its SCORE", g.near(0, 1), 1);
    g = with("ls20;by5v1");
    // from 19 it is over at the gun, from anywhere: all alike
    due(18, "of several the lowest", g.near(0, 0), 0);
    due(18, "RECALLED", g.near(0, 1), 1 - 30);
    // HOLD
    g = with("ls2u1;by0v0m1");
    // 0 and 1 SECONDS leave SPEED 1, RECALLED by the TIDE anyway
    due(19, "of several the fewest", g.hold(0, 0), 0);
    due(19, "its SCORE", g.hold(0, 1), 1 - 30);
    g = with("ls5;by7v1m3");
    due(19, "hold", g.hold(0, 0), 2);
    due(19, "its SCORE", g.hold(0, 1), 2);
    g = with("ls3;by6v1m3");
    // from the SPEED that it has 2 and 3 and 3 lengths are over; 0 and 1 and 2 are not
    due(19, "hold one", g.hold(0, 0), 1);
    due(19, "its SCORE", g.hold(0, 1), 2 - 3);
    g = with("ls3;by8v1m3");
    due(19, "no hold at all", g.hold(0, 0), 0);
    due(19, "its SCORE", g.hold(0, 1), 3);
    g = with("ls2;by0v2r0", "y:1");
    due(19, "hold to the gun", g.hold(0, 0), 2);
    due(19, "its SCORE", g.hold(0, 1), 0);
    g = with("ls4;by9v0r0", "y:0-1");
    due(19, "its RULE is not asked", g.hold(0, 1), 2 - 2);
    g = with("ls4;by9v2");
    g.go(4);
    due(19, "at the gun", g.hold(0, 0), 0);
    due(19, "at the gun", g.hold(0, 1), 1);
    // SECOND ROW
    g = with("ls3;by6v2;by7v2");
    due(20, "row(0, 1), held", g.row(0, 1), HIDDEN);
    // boat 1 from 8 goes 1, 1 and 2 lengths, as boat 0 is 2, 3 and 4 less; boat 0 from 8 is SHADOWED all the while
    due(20, "row(1, 1)", g.row(1, 1), 2 - 4);
    due(20, "row(0, 2)", g.row(0, 2), 2 - 5);
    due(20, "row(0, 9)", g.row(0, 9), 2 - 9);
    due(20, "nothing changes", g.boat(0, 1), 6);
    // TIDES
    g = with("lu3s10;b");
    due(21, "tides", g.tides(), 3);
    g.go(3);
    due(21, "tides", g.tides(), 2);
    g.go(7);
    due(21, "tides at the gun", g.tides(), 0);
    due(21, "no TIDE", with("ls10;b").tides(), 0);
  }

  private static void shape() {
    GunLine g = with("lw9;bx0y1;bx3y4;bx5y5;bx8y2");
    due(22, "sag above", g.sag(0), 3);
    due(22, "sag below", g.sag(1), 1);
    due(22, "sag(2)", g.sag(2), HIDDEN);
    due(22, "sag(-1)", g.sag(-1), HIDDEN);
    g = with("lw9;bx0y1;bx3y0;bx8y2");
    due(22, "below 0", g.sag(0), -3);
    due(22, "and below", g.sag(1), 2);
    g = with("lw9;bx0y4;bx3y4");
    due(22, "nought", g.sag(0), 0);
    due(22, "by one", g.sag(1), 1);
    due(22, "none else", with("lw9;bx3y4").sag(0), HIDDEN);
    due(22, "none in the middle", with("lw9;bx2y4").sag(1), HIDDEN);
    g = with("lw10;bx3y1;bx4y1;bx6y1;bx7y1");
    due(23, "heap(0): COLUMN 3 of 10", g.heap(0), 1);
    due(23, "heap(1): COLUMNS 4 and 6", g.heap(1), 2);
    due(23, "heap(2): COLUMN 7", g.heap(2), 1);
    due(23, "heap(3)", g.heap(3), NONE);
    due(23, "heap(-1)", g.heap(-1), NONE);
    g = with("lw9;bx0y5;bx4y5;bx8y5;bx7y6");
    due(24, "hole(0)", g.hole(0), 0);
    due(24, "hole(1)", g.hole(1), 3);
    due(24, "hole(2)", g.hole(2), 3);
    due(24, "hole(3), another BACK", g.hole(3), 7);
    for (int odd : ODD) { due(24, "hole(" + odd + ")", g.hole(odd), NONE); due(25, "keeps(" + odd + ")", g.keeps(odd), NONE); }
    due(25, "not till the gun", g.keeps(2), NONE);
    due(25, "no such COLUMN", g.keeps(0), NONE);
    // 2 lengths, then 1 in the shadow, and 1
    g = with("ls9;bx0y9v2;bx1y5");
    due(25, "behind three SECONDS", g.keeps(1), 3);
    due(25, "nothing changes", g.count(3), 0);
    g = with("ls3;bx0y9v2;bx1y5");
    due(25, "at the gun itself", g.keeps(1), 3);
    g = with("ls2;bx0y9v2;bx1y5");
    due(25, "too late", g.keeps(1), NONE);
    g = with("ls9d1w4;bx0y5;bx3y5");
    due(25, "DRIFT brings it beside the other at the END", g.keeps(1), 2);
    g = with("ls9;bx0y9v1;bx1y9v1;bx0y7");
    due(25, "now, though it goes on", g.keeps(1), 0);
    g = with("ls9;bx0y5;bx1y7v1");
    due(25, "the CELL to LEEWARD goes with its BOAT, SHADOWED here for good", g.keeps(1), NONE);
    g = with("ls9;bx0y5;bx1y7v2");
    due(25, "the CELL to LEEWARD goes with its BOAT", g.keeps(1), 2);
    g = with("ls9;bx0y5;bx1y5");
    due(25, "now", g.keeps(1), 0);
  }

  private static void thirds() {
    GunLine g = with("l;b;bx1");
    due(27, "two without ASKEW: each elsewhere", g.rests(NONE), 6);
    int[] rows = {1, 2, 10, 12, 20, 21};
    for (int i = 0; i < 6; i++) due(27, "rests(" + i + ")", g.rests(i), rows[i]);
    due(27, "rests(6)", g.rests(6), NONE);
    due(27, "rests(-2)", g.rests(-2), NONE);
    g = with("la9e1;b;bx1;bx2;bx3;bx4");
    // 45, 22, 0 from the right: five there have 37 each, more than 22
    due(27, "all at the better END", g.rests(NONE), 1);
    due(27, "that row", g.rests(0), 22222);
    g = with("la9;b;bx1;bx2;bx3;bx4");
    due(27, "all at the left", g.rests(0), 0);
    g = with("la1;b;bx1;bx2;bx3;bx4");
    // 5, 2, 0: 00012 has 1 1 1 2 0, none has more elsewhere; 00011 has 1 1 1 0 0 and 0 2 for who moves on
    due(27, "five by ASKEW 1", g.rests(0), 11);
    due(28, "spread(0) of five", g.spread(0), 0);
    due(28, "spread(1) of five", g.spread(1), 2);
    due(28, "spread(2)", g.spread(2), NONE);
    due(28, "spread(-1)", g.spread(-1), NONE);
    g = with("l;b;bx1;bx2;bx3;bx4;bx5");
    for (int i : new int[] {NONE, 0, 1, -2, 999}) due(27, "six BOATS", g.rests(i), HIDDEN);
    due(28, "six BOATS", g.spread(0), HIDDEN);
    due(28, "six BOATS", g.spread(1), HIDDEN);
    due(28, "six BOATS, no such what", g.spread(2), NONE);
  }

  private static void duels() {
    // both at rest; the other goes over; half a way
    GunLine g = with("ls5;b", "y:0", "y:1", "y:t>3?1;y:0-1");
    // RULE 1: 1 2 2 2 2: BACK 0, SPEED 2; RULE 0: BACK 9, SPEED 0, the other more than 3 ahead
    due(29, "duel(0, 1)", g.duel(0, 1), -9 - 2);
    due(29, "duel(1, 0)", g.duel(1, 0), 11);
    due(29, "duel(0, 0)", g.duel(0, 0), 0);
    // RULE 2: SPEED 1 2 1 0 0: BACK 5
    due(29, "duel(2, 0)", g.duel(2, 0), 4);
    due(30, "reply(0)", g.reply(0), 1);
    due(31, "strong", g.strong(), 1);
    for (int odd : new int[] {-1, 3, 4, Integer.MAX_VALUE, Integer.MIN_VALUE}) {
      due(29, "duel(" + odd + ", 0)", g.duel(odd, 0), HIDDEN);
      due(29, "duel(0, " + odd + ")", g.duel(0, odd), HIDDEN);
      due(30, "reply(" + odd + ")", g.reply(odd), NONE);
    }
    due(31, "no RULE", with("l;b").strong(), NONE);
    g = with("ls9u2d1f1a9e1w7;b", "y:1", "y:1");
    due(29, "alike", g.duel(0, 1), 0);
    due(30, "of several the lowest", g.reply(1), 0);
    due(31, "of several the lowest", g.strong(), 0);
    g = with("ls9u2d1f1a9e1w7;b", "y:1", "y:0");
    due(29, "over is RECALLED, whatever the WATER is", g.duel(0, 1), 2 - 30 + 9);
    // only who is in COLUMN 1 holds a CELL to LEEWARD
    g = with("ls1;b", "y:l", "y:x");
    due(29, "duel(0, 0): COLUMN 1 has leeward", g.duel(0, 0), -9 - 5 + 8 - 1);
    due(29, "duel(1, 1): COLUMN 1", g.duel(1, 1), -9 - 5 + 8 - 1);
  }

  private static void pictures() {
    GunLine g = with("l;b;bx1;bx2;bx3;bx4");
    for (int what = 0; what < 3; what++) due(33, "was(" + what + ") without any", g.was(what), 0);
    due(32, "picture", g.picture(0, -20, 20), 1);
    due(32, "picture", g.picture(1, -3, -1), 2);
    due(32, "picture", g.picture(2, 0, 20), 3);
    due(32, "picture", g.picture(3, -5, -4), 4);
    due(32, "picture", g.picture(3, -3, -2), 5);
    due(33, "COULD", g.was(0), 1 + 2);
    due(33, "SURE", g.was(1), 2);
    due(33, "FALSE", g.was(2), 8);
    due(33, "was(3)", g.was(3), NONE);
    due(33, "was(-1)", g.was(-1), NONE);
    due(32, "-21", g.picture(0, -21, 0), NONE);
    due(32, "21", g.picture(0, 0, 21), NONE);
    due(32, "the first greater", g.picture(0, 1, 0), NONE);
    for (int odd : ODD) due(32, "picture(" + odd + ", 0, 0)", g.picture(odd, 0, 0), NONE);
    due(32, "extremes", g.picture(0, Integer.MIN_VALUE, Integer.MAX_VALUE), NONE);
    due(41, "PICTURES", g.count(5), 5);
    for (int n = 6; n <= 12; n++) due(32, "picture", g.picture(0, -1, 1), n);
    due(32, "a thirteenth", g.picture(0, -1, 1), NONE);
    due(33, "COULD", g.was(0), 1 + 2);
    g.picture(0, -1, -1);
    due(33, "refused, so not SURE", g.was(1), 2);
  }

  private static void races() {
    GunLine g = with("ls2;by5v1;bx5y4v1");
    due(34, "not at the gun", g.race(), NONE);
    due(36, "no RACE", g.champion(), NONE);
    due(35, "points(0)", g.points(0), 0);
    g.go(2);
    due(34, "race", g.race(), 1);
    due(34, "race", g.race(), 2);
    due(35, "points(0)", g.points(0), 4);
    due(35, "points(1)", g.points(1), 2);
    due(35, "points(2)", g.points(2), NONE);
    due(35, "points(-1)", g.points(-1), NONE);
    due(36, "champion", g.champion(), 1);
    due(34, "a RACE is no ACT", g.count(7), 2);
    g.undo();
    due(35, "the BOOK stays", g.points(0), 4);
    due(37, "season(0)", g.season(0, 1), NONE);
    due(37, "season(21)", g.season(21, 1), NONE);
    due(37, "season(-1)", g.season(-1, 1), NONE);
    due(37, "season(20)", g.season(20, 1), 22);
    due(37, "more than there is room for", g.season(19, 1), NONE);
    due(37, "season(18)", g.season(18, 1), 40);
    due(37, "no room", g.season(1, 1), NONE);
    due(41, "RACES", g.count(6), 40);
    due(35, "all PLACES", g.points(0) + g.points(1), 3 * 40);
    due(37, "it is as it was", g.count(3), 1);
    boats(37, g, 1, 4, 3);
    g.go(1);
    due(34, "there are 40", g.race(), NONE);
    g = with("ls1;by5;bx1y5");
    g.go(1);
    g.race();
    g.speed(1, 2);
    g.race();
    due(35, "a tie", g.points(0), g.points(1));
    due(36, "of several the lowest", g.champion(), 0);
  }

  /** One RACE worked out apart: SPEED 0 all the while, so that BACK, COLUMN and shadows decide. */
  private static void seasons() {
    for (long seed = -30; seed < 30; seed++) {
      GunLine g = with("lw2a3s1;by0v0;bx1y0v0;bx1y1v0;bx1y2v0;bx1y3;bx1y4;bx1y5;bx1y6");
      g.speed(0, 2);
      g.mark(0);
      g.season(1, seed);
      long x = seed;
      int[] column = new int[8], back = new int[8], score = new int[8];
      for (int i = 0; i < 8; i++) {
        x = x * 6364136223846793005L + 1442695040888963407L;
        back[i] = 5 + (int) ((x >>> 33) % 10);
        x = x * 6364136223846793005L + 1442695040888963407L;
        column[i] = (int) ((x >>> 33) % 2);
        boolean placed = false;
        while (!placed) {
          boolean here = false, there = false;
          for (int j = 0; j < i; j++) if (back[j] == back[i]) { if (column[j] == column[i]) here = true; else there = true; }
          if (!here) placed = true;
          else if (!there) { column[i] = 1 - column[i]; placed = true; }
          else back[i]++;
        }
      }
      for (int i = 0; i < 8; i++) {
        score[i] = 15 * (1 - column[i]) - back[i];
        boolean shadowed = false;
        for (int j = 0; j < 8; j++) if (back[i] - back[j] >= 1 && back[i] - back[j] <= 3) shadowed = true;
        if (shadowed) score[i] -= 5;
      }
      for (int i = 0; i < 8; i++) {
        int place = 1;
        for (int j = 0; j < 8; j++) if (score[j] > score[i] || score[j] == score[i] && j < i) place++;
        due(37, "points(" + i + ") of season(1, " + seed + ")", g.points(i), place);
      }
    }
  }

  private static void flags() {
    // at the gun: one over from 10 SECONDS left, one behind; FLAG 1 is the dearer one for who is over
    GunLine g = with("ls9;by0v1;bx9y9");
    due(38, "flag(0): 2 by both, alike", g.flag(0), 0);
    due(38, "flag(1): 1 by both, alike", g.flag(1), 0);
    // both over; with FLAG 0 both RECALLED: better by COLUMN; nobody gains
    g = with("ls12a9;bx9y2v2m2r0;bx0y19v0", "y:t<12?0-1");
    // boat 0 stops behind SECOND 1 and 2: 2 and 1 lengths: over at 10 left, never counted EARLY before 9
    g.go(2);
    due(38, "over as 10 were left", g.boat(0, 1), -1);
    due(38, "not EARLY yet", g.boat(0, 7), 0);
    due(38, "EARLY at the gun anyway", g.flag(0), 0);
    for (int odd : ODD) due(38, "flag(" + odd + ")", g.flag(odd), NONE);
    // a third BOAT that is OUT lets who was RECALLED no further; who gains by FLAG 1 is one behind it in SCORE
    g = with("lw2a9s3;bx0y0v1;bx1y15");
    // FLAG 0: boat 0 has 45 + 1 - 30 = 16 against -15: first; FLAG 1: 45 + 1 - 100: second
    due(38, "who stays behind gains by FLAG 1", g.flag(1), 1);
    due(38, "who is over does not", g.flag(0), 0);
    due(38, "the FLAG stays", g.line(6), 0);
  }

  private static void images() {
    GunLine g = with("ls9;by9v1;bx5y9v1");
    due(40, "no IMAGE", g.back(), NONE);
    g.go(2);
    g.mark(0);
    g.rule(1, 2);
    due(39, "image", g.image(), 2);
    due(39, "an IMAGE is no ACT", g.count(7), 4);
    g.go(7);
    g.steer(0, 1);
    g.speed(1, 2);
    g.rule(1, 3);
    g.mark(1);
    g.race();
    g.picture(1, 0, 0);
    due(40, "back", g.back(), 2);
    due(40, "no ACT can be UNDONE", g.count(7), 0);
    due(40, "undo", g.undo(), NONE);
    boats(40, g, 0, 0, 5);
    boats(40, g, 1, 7, 7);
    boats(40, g, 2, 1, 1);
    boats(40, g, 5, NONE, 2);
    boats(40, g, 6, 1, 0);
    boats(40, g, 7, 0, 0);
    due(40, "the BOOK stays", g.count(6), 1);
    due(40, "PICTURES stay", g.count(5), 1);
    g.go(1);
    due(40, "back again", g.back(), 2);
    g.go(3);
    due(39, "another IMAGE", g.image(), 5);
    g.go(1);
    due(40, "back to that one", g.back(), 5);
    boats(40, g, 1, 4, 4);
  }

  private static void counts() {
    GunLine g = with("ls9;b;bx3", "y:1", "y:2");
    g.gust(5);
    g.go(3);
    g.picture(0, 1, 2);
    g.season(4, 9);
    feed(g, "hello");
    int[] want = {2, 2, 5, 3, 5, 1, 4, 3};
    for (int what = 0; what < 8; what++) due(41, "count(" + what + ")", g.count(what), want[what]);
    for (int odd : ODD) due(41, "count(" + odd + ")", g.count(odd), HIDDEN);
    due(1, "NONE", GunLine.NONE, -1);
    due(1, "HIDDEN", GunLine.HIDDEN, -1000000);
  }

  /** The longest code and the dearest call end soon, and a RULE of 240 bytes is kept whole. */
  private static void longest() {
    String rule = "y:" + times("1+", 118) + "0";
    due(4, "length", rule.length(), 239);
    GunLine g = with("ls60;by19v1r0;bx1y19r0;bx2y19r0;bx3y19r0;bx4y19r0;bx5y19r0;bx6y19r0;bx7y19r0", rule, times("y:b=1?1;", 29) + "y:0-1");
    g.go(1);
    due(13, "118 is above 0", g.boat(0, 2), 2);
    g.rule(0, 1);
    g.go(1);
    due(13, "the thirtieth CLAUSE", g.boat(0, 2), 1);
    due(19, "hold", g.hold(7, 0) >= 0, true);
  }

  public static void main(String[] args) {
    newObject(); tape(); waterFaults(); ruleFaults(); texts(); boatsAndLine(); byHand(); undoing(); seconds(); rules(); blowing();
    lookingAhead(); shape(); thirds(); duels(); pictures(); races(); seasons(); flags(); images(); counts(); longest();
    System.out.println(wrong == 0 ? "all promises are as due" : wrong + " answers are not as due");
    if (wrong != 0) System.exit(1);
  }
}
