import java.util.ArrayList;
import java.util.List;
import java.util.NoSuchElementException;

/**
 * "What is refused answers as told and changes nothing": of two objects with the same calls behind them one is asked
 * what is refused; both are read out then, to their last ACT, IMAGE and byte. What only looks changes nothing either.
 */
public final class RefusedTests {
  private static final int N = Due.NONE, H = Due.HIDDEN, THROWN = Integer.MIN_VALUE;
  private static final int[] FAR = {Due.LEAST, Due.LEAST + 1, Due.GREATEST - 1, Due.GREATEST};

  interface Made { GunLine make(); }

  // ---- objects in all states ---------------------------------------------------------------------------------

  private static GunLine fresh() { return new GunLine(); }

  /** Two RULES, a GUST and a begun WATER on the TAPE, but no WATER. */
  private static GunLine begun() {
    GunLine g = new GunLine();
    Due.feed(g, "y:b-t"); g.text(1);
    Due.feed(g, "y:1"); g.text(1);
    g.gust(40);
    Due.feed(g, "lw7s9u2d3;bx1y4v1");
    return g;
  }

  /** In the middle of a start: ACTS of each sort, an IMAGE, PICTURES, RACES, a GUST, a begun WATER. */
  private static GunLine midway() {
    GunLine g = Due.with("lw6s14u4d3f1a3e1;bx0y2v1r0;bx1y6v2m3z2r1;bx1y7v1;bx5y6z9r3", "y:b-t", "y:w=1?1;y:2-c");
    g.gust(60);
    g.season(3, 77);
    g.mark(1);
    g.go(2);
    g.image();
    g.steer(3, -1);
    g.rule(2, 1);
    g.speed(0, 2);
    g.blow(3, 12345);
    g.picture(0, -3, 1);
    g.picture(1, -2, -1);
    g.picture(2, 3, 4);
    g.picture(2, 5, 6);
    Due.feed(g, "lw7s9u2d3;bx1y4v1");
    return g;
  }

  /** At the gun, all full: 8 BOATS, 4 RULES, 240 bytes, 40 ACTS, 12 PICTURES, 40 RACES. */
  private static GunLine full() {
    GunLine g = Due.with("lw4s45f0;bx0y9v2;bx1y9v1;bx2y9;bx3y9;bx0y12m3r0;bx1y15r1;bx2y19r2;bx3y19r3", "y:b-t", "y:1", "y:0", "y:b-2");
    g.gust(99);
    g.image();
    g.blow(45, -5);
    g.season(20, 1);
    g.season(19, 2);
    g.race();
    for (int i = 0; i < 12; i++) g.picture(i % 8, i - 9, i - 3);
    Due.feed(g, "lw7s9u2d3;bx1y4v1" + " ".repeat(223));
    return g;
  }

  // ---- reading out: several ways, each on an object of its own, so that none is asked more than 512 times ---------

  interface Reading { void of(GunLine g, List<Integer> to); }

  private static final List<Reading> READINGS = List.of(RefusedTests::readNow, RefusedTests::readLooks, RefusedTests::readActs,
    RefusedTests::readImage, RefusedTests::readBook, RefusedTests::readTape);

  private static void readNow(GunLine g, List<Integer> to) {
    for (int what = 0; what < 8; what++) to.add(g.count(what));
    for (int what = 0; what < 7; what++) to.add(g.line(what));
    for (int i = 0; i < g.count(0); i++) {
      for (int what = 0; what < 12; what++) to.add(g.boat(i, what));
      to.add(g.points(i));
    }
  }

  private static void readLooks(GunLine g, List<Integer> to) {
    for (int what = 0; what < 3; what++) put(to, g.was(what), g.which(what), g.heap(what), g.rests(what), g.sag(what));
    for (int boat = 0; boat < 3; boat++) put(to, g.ahead(boat, 4), g.where(boat, 0), g.near(boat, 0), g.hold(boat, 0), g.keeps(boat), g.flag(boat));
    put(to, g.champion(), g.tides(), g.strong(), g.fault(0), g.fault(1), g.duel(0, 1), g.duel(1, 0));
  }

  /** Each ACT is undone, and of one BOAT after the other all that an ACT may change is read. */
  private static void readActs(GunLine g, List<Integer> to) {
    int boats = g.count(0);
    for (int i = 0; i < 41 && g.undo() != N; i++) {
      put(to, g.count(7), g.count(3));
      for (int what : new int[] {0, 1, 2, 5, 6, 7}) to.add(g.boat(i % boats, what));
    }
    put(to, g.undo(), g.blow(1, 99), g.count(7), g.count(3));
    for (int i = 0; i < boats; i++) put(to, g.boat(i, 0), g.boat(i, 1), g.boat(i, 2));
  }

  private static void readImage(GunLine g, List<Integer> to) {
    put(to, g.blow(1, 97), g.back());
    readNow(g, to);
    put(to, g.blow(1, 98), g.count(7));
    readNow(g, to);
  }

  private static void readBook(GunLine g, List<Integer> to) {
    put(to, g.picture(0, 0, 0), g.season(1, 5), g.race(), g.was(0), g.was(1), g.was(2), g.champion());
    readNow(g, to);
  }

  private static void readTape(GunLine g, List<Integer> to) {
    put(to, Due.feed(g, " "), g.end(17) ? 1 : 0, Due.feed(g, ";br1x2"), g.text(0));
    readNow(g, to);
    put(to, g.back(), g.undo(), g.go(3));
    readNow(g, to);
    put(to, Due.feed(g, "y:3"), g.text(1), g.strong());
  }
  private static void put(List<Integer> all, int... more) { for (int n : more) all.add(n); }

  // ---- asking ------------------------------------------------------------------------------------------------

  private static String state;
  private static Made made;
  private static final List<List<Integer>> due = new ArrayList<>();

  private static List<Integer> read(int way, GunLine g) {
    List<Integer> all = new ArrayList<>();
    READINGS.get(way).of(g, all);
    return all;
  }

  private static void in(String name, Made how) {
    state = name;
    made = how;
    due.clear();
    for (int way = 0; way < READINGS.size(); way++) due.add(read(way, how.make()));
  }

  private static void unchanged(String call, Due.Call ask) {
    for (int way = 0; way < READINGS.size(); way++) {
      GunLine g = made.make();
      ask.on(g);
      Due.is(state + ", reading " + way + ": all is as it was behind " + call, read(way, g).equals(due.get(way)), true);
    }
  }

  private static void refused(String call, long want, Due.Call ask) {
    Due.is(state + ": " + call, ask.on(made.make()), want);
    unchanged(call, ask);
  }
  private static void looks(String call, Due.Call ask) { unchanged(call, ask); }

  private static long boatOrThrown(GunLine g, int boat, int what) {
    try { return g.boat(boat, what); } catch (NoSuchElementException e) { return THROWN; }
  }

  private static void noSuchArguments() {
    for (int n : FAR) {
      refused("end(" + n + ")", 0, g -> g.end(n) ? 1 : 0);
      refused("fault(" + n + ")", -2, g -> g.fault(n));
      refused("text(" + n + ")", N, g -> g.text(n));
      refused("boat(" + n + ", 0)", THROWN, g -> boatOrThrown(g, n, 0));
      refused("boat(0, " + n + ")", THROWN, g -> boatOrThrown(g, 0, n));
      refused("line(" + n + ")", N, g -> g.line(n));
      refused("rule(" + n + ", 2)", N, g -> g.rule(n, 2));
      refused("rule(0, " + n + ")", N, g -> g.rule(0, n));
      refused("mark(" + n + ")", N, g -> g.mark(n));
      refused("speed(" + n + ", 0)", N, g -> g.speed(n, 0));
      refused("speed(0, " + n + ")", N, g -> g.speed(0, n));
      refused("steer(" + n + ", 1)", N, g -> g.steer(n, 1));
      refused("steer(0, " + n + ")", N, g -> g.steer(0, n));
      refused("gust(" + n + ")", 0, g -> g.gust(n) ? 1 : 0);
      refused("go(" + n + ")", N, g -> g.go(n));
      refused("blow(" + n + ", 1)", N, g -> g.blow(n, 1));
      refused("ahead(" + n + ", 0)", H, g -> g.ahead(n, 0));
      refused("ahead(0, " + n + ")", H, g -> g.ahead(0, n));
      refused("where(" + n + ", 0)", H, g -> g.where(n, 0));
      refused("where(0, " + n + ")", H, g -> g.where(0, n));
      refused("near(" + n + ", 0)", H, g -> g.near(n, 0));
      refused("near(0, " + n + ")", H, g -> g.near(0, n));
      refused("hold(" + n + ", 0)", H, g -> g.hold(n, 0));
      refused("hold(0, " + n + ")", H, g -> g.hold(0, n));
      refused("row(" + n + ", 1)", H, g -> g.row(n, 1));
      refused("row(0, " + n + ")", H, g -> g.row(0, n));
      refused("sag(" + n + ")", H, g -> g.sag(n));
      refused("heap(" + n + ")", N, g -> g.heap(n));
      refused("hole(" + n + ")", N, g -> g.hole(n));
      refused("keeps(" + n + ")", N, g -> g.keeps(n));
      refused("which(" + n + ")", N, g -> g.which(n));
      refused("spread(" + n + ")", N, g -> g.spread(n));
      refused("duel(" + n + ", 0)", H, g -> g.duel(n, 0));
      refused("duel(0, " + n + ")", H, g -> g.duel(0, n));
      refused("reply(" + n + ")", N, g -> g.reply(n));
      refused("picture(" + n + ", 0, 0)", N, g -> g.picture(n, 0, 0));
      refused("picture(0, " + n + ", 0)", N, g -> g.picture(0, n, 0));
      refused("picture(0, 0, " + n + ")", N, g -> g.picture(0, 0, n));
      refused("was(" + n + ")", N, g -> g.was(n));
      refused("points(" + n + ")", N, g -> g.points(n));
      refused("season(" + n + ", 1)", N, g -> g.season(n, 1));
      refused("flag(" + n + ")", N, g -> g.flag(n));
      refused("count(" + n + ")", H, g -> g.count(n));
    }
    // one step beside each bound that no state moves
    refused("end(-1)", 0, g -> g.end(-1) ? 1 : 0);
    refused("fault(-1)", -2, g -> g.fault(-1));
    refused("fault(2)", -2, g -> g.fault(2));
    refused("text(-1)", N, g -> g.text(-1));
    refused("text(2)", N, g -> g.text(2));
    refused("boat(-1, 0)", THROWN, g -> boatOrThrown(g, -1, 0));
    refused("boat(0, -1)", THROWN, g -> boatOrThrown(g, 0, -1));
    refused("boat(0, 12)", THROWN, g -> boatOrThrown(g, 0, 12));
    refused("boat(8, 0)", THROWN, g -> boatOrThrown(g, 8, 0));
    refused("rule(-1, 2)", N, g -> g.rule(-1, 2));
    refused("rule(8, 2)", N, g -> g.rule(8, 2));
    refused("rule(0, -2)", N, g -> g.rule(0, -2));
    refused("rule(0, 4)", N, g -> g.rule(0, 4));
    refused("mark(-1)", N, g -> g.mark(-1));
    refused("mark(8)", N, g -> g.mark(8));
    refused("speed(-1, 1)", N, g -> g.speed(-1, 1));
    refused("speed(8, 1)", N, g -> g.speed(8, 1));
    refused("speed(0, -1)", N, g -> g.speed(0, -1));
    refused("speed(0, 3)", N, g -> g.speed(0, 3));
    refused("steer(0, 0)", N, g -> g.steer(0, 0));
    refused("steer(0, 2)", N, g -> g.steer(0, 2));
    refused("steer(0, -2)", N, g -> g.steer(0, -2));
    refused("gust(-1)", 0, g -> g.gust(-1) ? 1 : 0);
    refused("gust(100)", 0, g -> g.gust(100) ? 1 : 0);
    refused("gust as it is", 0, g -> g.gust(g.count(4)) ? 1 : 0);
    refused("go(0)", N, g -> g.go(0));
    refused("go(-1)", N, g -> g.go(-1));
    refused("blow(0, 1)", N, g -> g.blow(0, 1));
    refused("go of one more than are left", N, g -> g.go(Math.max(0, g.line(5)) - g.count(3) + 1));
    refused("blow of one more than are left", N, g -> g.blow(Math.max(0, g.line(5)) - g.count(3) + 1, 1));
    refused("season(0, 1)", N, g -> g.season(0, 1));
    refused("season(21, 1)", N, g -> g.season(21, 1));
    refused("picture(0, -21, 0)", N, g -> g.picture(0, -21, 0));
    refused("picture(0, 0, 21)", N, g -> g.picture(0, 0, 21));
    refused("picture(0, 1, 0)", N, g -> g.picture(0, 1, 0));
    refused("feed of more than 240", N, g -> { g.end(0); for (int i = 0; i < 12; i++) g.feed(-1, -1, -1, -1, -1); return g.feed(0, 0, 0, 0, 1) + refill(g); });
  }

  /** The TAPE again as it was in this state. */
  private static int refill(GunLine g) {
    g.end(0);
    if (state.equals("fresh")) return 0;
    Due.feed(g, "lw7s9u2d3;bx1y4v1");
    if (state.equals("full")) Due.feed(g, " ".repeat(223));
    return 0;
  }

  private static void withoutWater() {
    refused("boat(0, 0)", THROWN, g -> boatOrThrown(g, 0, 0));
    refused("line(0)", N, g -> g.line(0));
    refused("rule(0, 1)", N, g -> g.rule(0, 1));
    refused("mark(0)", N, g -> g.mark(0));
    refused("speed(0, 1)", N, g -> g.speed(0, 1));
    refused("steer(0, 1)", N, g -> g.steer(0, 1));
    refused("go(1)", N, g -> g.go(1));
    refused("blow(1, 1)", N, g -> g.blow(1, 1));
    refused("undo()", N, g -> g.undo());
    refused("ahead(0, 0)", H, g -> g.ahead(0, 0));
    refused("where(0, 0)", H, g -> g.where(0, 0));
    refused("near(0, 0)", H, g -> g.near(0, 0));
    refused("hold(0, 0)", H, g -> g.hold(0, 0));
    refused("row(0, 1)", H, g -> g.row(0, 1));
    refused("tides()", N, g -> g.tides());
    refused("sag(0)", H, g -> g.sag(0));
    refused("heap(0)", N, g -> g.heap(0));
    refused("hole(0)", N, g -> g.hole(0));
    refused("keeps(0)", N, g -> g.keeps(0));
    refused("which(0)", N, g -> g.which(0));
    refused("rests(NONE)", N, g -> g.rests(-1));
    refused("spread(0)", N, g -> g.spread(0));
    refused("duel(0, 0)", H, g -> g.duel(0, 0));
    refused("reply(0)", N, g -> g.reply(0));
    refused("strong()", N, g -> g.strong());
    refused("picture(0, 0, 0)", N, g -> g.picture(0, 0, 0));
    refused("was(0)", N, g -> g.was(0));
    refused("race()", N, g -> g.race());
    refused("points(0)", N, g -> g.points(0));
    refused("champion()", N, g -> g.champion());
    refused("season(1, 1)", N, g -> g.season(1, 1));
    refused("flag(0)", N, g -> g.flag(0));
    refused("image()", N, g -> g.image());
    refused("back()", N, g -> g.back());
  }

  private static void ofMidway() {
    refused("boat(4, 0)", THROWN, g -> boatOrThrown(g, 4, 0));
    refused("line(7)", N, g -> g.line(7));
    refused("rule(4, 1)", N, g -> g.rule(4, 1));
    refused("rule(0, 0), as it is", N, g -> g.rule(0, 0));
    refused("mark(4)", N, g -> g.mark(4));
    refused("mark(1), it has one", N, g -> g.mark(1));
    refused("speed(4, 1)", N, g -> g.speed(4, 1));
    refused("speed as it is", N, g -> g.speed(0, g.boat(0, 2)));
    refused("speed(1, 4)", N, g -> g.speed(1, 4));
    refused("steer(4, 1)", N, g -> g.steer(4, 1));
    refused("go(10) of 9", N, g -> g.go(10));
    refused("blow(10) of 9", N, g -> g.blow(10, 1));
    refused("race() not at the gun", N, g -> g.race());
    refused("season(38), more than 20", N, g -> g.season(38, 1));
    refused("picture(4, 0, 0)", N, g -> g.picture(4, 0, 0));
    refused("points(4)", N, g -> g.points(4));
    refused("flag(4)", N, g -> g.flag(4));
    refused("keeps(4)", N, g -> g.keeps(4));
    refused("hole(4)", N, g -> g.hole(4));
    refused("ahead(4, 0)", H, g -> g.ahead(4, 0));
    refused("ahead(0, 6)", H, g -> g.ahead(0, 6));
    refused("where(4, 0)", H, g -> g.where(4, 0));
    refused("near(4, 0)", H, g -> g.near(4, 0));
    refused("hold(4, 0)", H, g -> g.hold(4, 0));
    refused("row(0, 10)", H, g -> g.row(0, 10));
    refused("row(0, 0)", H, g -> g.row(0, 0));
    refused("duel(2, 0)", H, g -> g.duel(2, 0));
    refused("reply(2)", N, g -> g.reply(2));
    refused("text(1) of a WATER", N, g -> g.text(1));
    refused("text(0) with a FAULT", N, g -> { Due.feed(g, ";"); int n = g.text(0); refill(g); return n; });
    refused("end(18) of 17", 0, g -> g.end(18) ? 1 : 0);
  }

  private static void ofFull() {
    refused("boat(8, 11)", THROWN, g -> boatOrThrown(g, 8, 11));
    refused("feed of a byte", N, g -> g.feed(0, 0x3b000000, 0, 0, 0));
    refused("feed of twenty", N, g -> g.feed(-1, -1, -1, -1, -1));
    refused("end(241)", 0, g -> g.end(241) ? 1 : 0);
    refused("go(1) at the gun", N, g -> g.go(1));
    refused("blow(1) at the gun", N, g -> g.blow(1, 1));
    refused("a thirteenth PICTURE", N, g -> g.picture(7, -20, -20));
    refused("a forty-first RACE", N, g -> g.race());
    refused("a SEASON of 1", N, g -> g.season(1, 3));
    refused("a SEASON of 20", N, g -> g.season(20, 3));
    refused("a fifth RULE", N, g -> { g.end(0); Due.feed(g, "y:1"); int n = g.text(1); refill(g); return n; });
    refused("rests(0) of eight", H, g -> g.rests(0));
    refused("rests(NONE) of eight", H, g -> g.rests(-1));
    refused("spread(0) of eight", H, g -> g.spread(0));
    refused("spread(1) of eight", H, g -> g.spread(1));
    refused("steer left of the LINE", N, g -> g.steer(0, -1));
    refused("steer right of the LINE", N, g -> g.steer(3, 1));
    refused("duel(4, 0)", H, g -> g.duel(4, 0));
    refused("reply(4)", N, g -> g.reply(4));
  }

  /** "Apart": whoever only looks leaves all as it is. */
  private static void lookingChangesNothing() {
    for (int i = 0; i < 4; i++) {
      int k = i;
      looks("ahead", g -> g.ahead(k, k));
      looks("where", g -> g.where(k, 0));
      looks("near", g -> g.near(k, 1));
      looks("hold", g -> g.hold(k, 0));
      looks("row", g -> g.row(k, 2));
      looks("hole", g -> g.hole(k));
      looks("keeps", g -> g.keeps(k));
      looks("flag", g -> g.flag(k));
      looks("reply", g -> g.reply(k));
      looks("duel", g -> g.duel(k, 0));
      looks("points", g -> g.points(k));
      looks("heap", g -> g.heap(k));
      looks("which", g -> g.which(k));
      looks("was", g -> g.was(k));
      looks("rests", g -> g.rests(k - 1));
      looks("spread", g -> g.spread(k));
      looks("sag", g -> g.sag(k));
      looks("fault", g -> g.fault(k));
      looks("boat", g -> boatOrThrown(g, k, 10));
      looks("line", g -> g.line(k));
      looks("count", g -> g.count(k));
    }
    looks("tides", g -> g.tides());
    looks("strong", g -> g.strong());
    looks("champion", g -> g.champion());
    looks("a feed of no byte", g -> g.feed(0, 0, 0, 0, 0));
    looks("end at its end", g -> g.end(g.count(2)) ? 1 : 0);
    looks("gust there and back", g -> { int was = g.count(4); g.gust(was == 3 ? 4 : 3); return g.gust(was) ? 1 : 0; });
  }

  /** What an undone ACT leaves is what was ahead of it; a SEASON leaves all but the BOOK as it was. */
  private static void undoneLeavesNothing() {
    looks("mark, undone", g -> { g.mark(3); return g.undo(); });
    looks("rule, undone", g -> { g.rule(3, 0); return g.undo(); });
    looks("speed, undone", g -> { g.speed(1, g.boat(1, 2) == 3 ? 0 : 3); return g.undo(); });
    looks("steer, undone", g -> g.steer(2, 1) == N && g.steer(2, -1) == N ? N : g.undo());
    looks("go, undone", g -> { g.go(3); g.undo(); g.undo(); return g.undo(); });
    looks("blow, undone", g -> { g.blow(3, 8); g.undo(); g.undo(); return g.undo(); });
  }

  public static void main(String[] args) {
    in("fresh", RefusedTests::fresh);
    noSuchArguments(); withoutWater(); lookingChangesNothing();
    refused("end(1) of none", 0, g -> g.end(1) ? 1 : 0);
    refused("text(0) of none", N, g -> g.text(0));
    refused("text(1) of none", N, g -> g.text(1));
    in("begun", RefusedTests::begun);
    noSuchArguments(); withoutWater(); lookingChangesNothing();
    in("midway", RefusedTests::midway);
    noSuchArguments(); ofMidway(); lookingChangesNothing(); undoneLeavesNothing();
    in("full", RefusedTests::full);
    noSuchArguments(); ofFull(); lookingChangesNothing();
    Due.finish();
  }
}
