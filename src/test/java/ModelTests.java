import java.util.ArrayDeque;
import java.util.ArrayList;
import java.util.Deque;
import java.util.HashMap;
import java.util.List;
import java.util.Map;
import java.util.NoSuchElementException;
import java.util.Random;
import java.util.TreeSet;

/**
 * Random runs of calls, each answered by GunLine and by a slow model that is written another way
 * (objects, maps, sets of all the places a text can be read to), and compared.
 */
public final class ModelTests {
  static final int NONE = -1, HIDDEN = -1000000;
  private static int wrong = 0;

  // ---- the model: texts ------------------------------------------------------------------------------------

  /** Reads a RULE by all ways at once: each method answers every place behind what it may have read. */
  static final class RuleText {
    final String s;
    int furthest = 0;
    RuleText(String s) { this.s = s; }

    int skip(int p) { while (p < s.length() && s.charAt(p) == ' ') p++; return p; }
    TreeSet<Integer> sign(TreeSet<Integer> from, String any) {
      TreeSet<Integer> to = new TreeSet<>();
      for (int q : from) {
        int p = skip(q);
        furthest = Math.max(furthest, p);
        if (p < s.length() && any.indexOf(s.charAt(p)) >= 0) to.add(p + 1);
      }
      return to;
    }
    TreeSet<Integer> number(TreeSet<Integer> from) {
      TreeSet<Integer> all = new TreeSet<>();
      for (int q : from) {
        int p = skip(q);
        furthest = Math.max(furthest, p);
        for (int n = 0; n < 4 && p < s.length() && s.charAt(p) >= '0' && s.charAt(p) <= '9'; n++) all.add(++p);
        furthest = Math.max(furthest, p);
      }
      return all;
    }
    TreeSet<Integer> atom(TreeSet<Integer> from, int d) {
      TreeSet<Integer> to = number(from);
      to.addAll(sign(from, "btvxcwl"));
      if (d < 6) {
        TreeSet<Integer> in = sign(from, "[");
        if (!in.isEmpty()) to.addAll(sign(sum(in, d + 1), "]"));
      }
      return to;
    }
    TreeSet<Integer> term(TreeSet<Integer> from, int d) {
      TreeSet<Integer> all = new TreeSet<>(), now = from.isEmpty() ? from : atom(from, d);
      while (!now.isEmpty()) {
        all.addAll(now);
        TreeSet<Integer> on = sign(now, "*/");
        now = on.isEmpty() ? on : atom(on, d);
      }
      return all;
    }
    TreeSet<Integer> sum(TreeSet<Integer> from, int d) {
      TreeSet<Integer> all = new TreeSet<>(), now = from.isEmpty() ? from : term(from, d);
      while (!now.isEmpty()) {
        all.addAll(now);
        TreeSet<Integer> on = sign(now, "+-");
        now = on.isEmpty() ? on : term(on, d);
      }
      return all;
    }
    TreeSet<Integer> unit(TreeSet<Integer> from, int d) {
      TreeSet<Integer> to = new TreeSet<>();
      if (d < 6) {
        TreeSet<Integer> not = sign(from, "!");
        if (!not.isEmpty()) to.addAll(unit(not, d + 1));
        TreeSet<Integer> in = sign(from, "(");
        if (!in.isEmpty()) to.addAll(sign(condition(in, d + 1), ")"));
      }
      TreeSet<Integer> compared = sign(sum(from, d), "=<>");
      if (!compared.isEmpty()) to.addAll(sum(compared, d));
      return to;
    }
    TreeSet<Integer> truth(TreeSet<Integer> from, int d) {
      TreeSet<Integer> all = new TreeSet<>(), now = from.isEmpty() ? from : unit(from, d);
      while (!now.isEmpty()) {
        all.addAll(now);
        TreeSet<Integer> on = sign(now, "&");
        now = on.isEmpty() ? on : unit(on, d);
      }
      return all;
    }
    TreeSet<Integer> condition(TreeSet<Integer> from, int d) {
      TreeSet<Integer> all = new TreeSet<>(), now = from.isEmpty() ? from : truth(from, d);
      while (!now.isEmpty()) {
        all.addAll(now);
        TreeSet<Integer> on = sign(now, "|");
        now = on.isEmpty() ? on : truth(on, d);
      }
      return all;
    }
    int fault() {
      TreeSet<Integer> at = new TreeSet<>(List.of(0));
      while (true) {
        TreeSet<Integer> begun = sign(sign(at, "y"), ":");
        if (begun.isEmpty()) return furthest;
        TreeSet<Integer> told = new TreeSet<>(begun);
        told.addAll(sign(condition(begun, 0), "?"));
        TreeSet<Integer> over = sum(told, 0);
        for (int p : over) if (skip(p) == s.length()) return NONE;
        at = sign(over, ";");
        if (at.isEmpty()) return furthest;
      }
    }
  }

  /** What a RULE without blanks and faults is worth: split at its outermost, weakest signs. */
  static int worth(String rule, Map<Character, Integer> letters) {
    for (String clause : rule.split(";")) {
      String body = clause.substring(2);
      int ask = body.indexOf('?');
      if (ask < 0) return sumOf(body, letters);
      if (holds(body.substring(0, ask), letters)) return sumOf(body.substring(ask + 1), letters);
    }
    return 0;
  }
  static int lastOutside(String s, String signs) {
    int depth = 0;
    for (int i = s.length() - 1; i >= 0; i--) {
      char c = s.charAt(i);
      if (c == ')' || c == ']') depth++;
      else if (c == '(' || c == '[') depth--;
      else if (depth == 0 && signs.indexOf(c) >= 0) return i;
    }
    return -1;
  }
  static boolean holds(String s, Map<Character, Integer> letters) {
    int at = lastOutside(s, "|");
    if (at >= 0) return holds(s.substring(0, at), letters) | holds(s.substring(at + 1), letters);
    at = lastOutside(s, "&");
    if (at >= 0) return holds(s.substring(0, at), letters) & holds(s.substring(at + 1), letters);
    if (s.charAt(0) == '!') return !holds(s.substring(1), letters);
    if (s.charAt(0) == '(') return holds(s.substring(1, s.length() - 1), letters);
    at = lastOutside(s, "=<>");
    int a = sumOf(s.substring(0, at), letters), b = sumOf(s.substring(at + 1), letters);
    return s.charAt(at) == '=' ? a == b : s.charAt(at) == '<' ? a < b : a > b;
  }
  static int sumOf(String s, Map<Character, Integer> letters) {
    int at = lastOutside(s, "+-");
    if (at < 0) at = lastOutside(s, "*/");
    if (at >= 0) {
      long a = sumOf(s.substring(0, at), letters), b = sumOf(s.substring(at + 1), letters), r;
      switch (s.charAt(at)) {
        case '+': r = a + b; break;
        case '-': r = a - b; break;
        case '*': r = a * b; break;
        default: r = b == 0 ? 0 : a / b;
      }
      return (int) Math.max(-1000000, Math.min(1000000, r));
    }
    if (s.charAt(0) == '[') return sumOf(s.substring(1, s.length() - 1), letters);
    if (Character.isDigit(s.charAt(0))) return Integer.parseInt(s);
    return letters.get(s.charAt(0));
  }

  static final class Boat {
    int x, y, v, m, z, r; boolean mark, early;
    Boat copy() { Boat b = new Boat(); b.x = x; b.y = y; b.v = v; b.m = m; b.z = z; b.r = r; b.mark = mark; b.early = early; return b; }
  }
  static final class State {
    List<Boat> boats = new ArrayList<>(); int second;
    State copy() { State s = new State(); for (Boat b : boats) s.boats.add(b.copy()); s.second = second; return s; }
    Boat in(int x, int y) { for (Boat b : boats) if (b.x == x && b.y == y) return b; return null; }
    boolean shadowed(Boat b) {
      for (Boat o : boats) if (o != b && Math.abs(o.x - b.x) <= 1 && b.y - o.y >= 1 && b.y - o.y <= 3) return true;
      return false;
    }
  }

  static final String[] SPEC = {"w2,20,10", "a0,9,0", "e0,1,0", "u0,9,0", "d0,9,0", "s1,60,20", "f0,1,0"};
  static final String[] BOAT_SPEC = {"x0,19,0", "y0,19,5", "v0,3,0", "m1,3,2", "z0,9,5", "r0,4,4"};

  /** A WATER read sign by sign by a machine of four states. */
  static final class WaterText {
    final Map<Character, Integer> line = new HashMap<>();
    final List<Map<Character, Integer>> boats = new ArrayList<>();
    int fault;
    WaterText(String s) { fault = read(s); }

    static String[] spec(String[] all, char c) {
      for (String t : all) if (t.charAt(0) == c) return t.substring(1).split(",");
      return null;
    }
    static void fill(Map<Character, Integer> m, String[] all) {
      for (String t : all) m.putIfAbsent(t.charAt(0), Integer.parseInt(t.substring(1).split(",")[2]));
    }
    int read(String s) {
      boolean hasLine = false;
      Map<Character, Integer> items = null;
      String[] all = null;
      char state = 'c';
      char letter = 0;
      for (int p = 0; p < s.length(); p++) {
        char c = s.charAt(p);
        if (c == ' ') continue;
        if (state == 'c') {
          if (c == 'l' && !hasLine) { hasLine = true; items = line; all = SPEC; }
          else if (c == 'b' && boats.size() < 8) { items = new HashMap<>(); boats.add(items); all = BOAT_SPEC; }
          else return p;
          state = 'i';
        } else if (state == 'i') {
          if (c == ';') { state = 'c'; continue; }
          if (spec(all, c) == null || items.containsKey(c)) return p;
          letter = c;
          state = 'n';
        } else {
          String digits = "";
          int q = p;
          while (q < s.length() && Character.isDigit(s.charAt(q)) && s.charAt(q) < 128) digits += s.charAt(q++);
          if (digits.isEmpty()) return p;
          if (digits.length() > 2) return p + 2;
          int n = Integer.parseInt(digits);
          String[] bounds = spec(all, letter);
          if (n < Integer.parseInt(bounds[0]) || n > Integer.parseInt(bounds[1])) return q - 1;
          items.put(letter, n);
          p = q - 1;
          state = 'i';
        }
      }
      if (state != 'i' || !hasLine || boats.isEmpty()) return s.length();
      fill(line, SPEC);
      TreeSet<Integer> cells = new TreeSet<>();
      for (Map<Character, Integer> b : boats) {
        fill(b, BOAT_SPEC);
        if (b.get('v') > b.get('m') || b.get('x') >= line.get('w') || !cells.add(b.get('x') * 100 + b.get('y'))) return s.length();
      }
      return NONE;
    }
  }

  // ---- the model: calls ------------------------------------------------------------------------------------

  static final class Model {
    String tape = "";
    List<String> rules = new ArrayList<>();
    Map<Character, Integer> line;
    State told, now = new State(), kept;
    Deque<State> acts = new ArrayDeque<>();
    List<int[]> pictures = new ArrayList<>();
    List<int[]> book = new ArrayList<>();
    int gust;
    long x;

    int draw(int k) { x = x * 6364136223846793005L + 1442695040888963407L; return (int) ((x >>> 33) % k); }
    int left(State s) { return line.get('s') - s.second; }
    boolean no(int boat) { return boat < 0 || boat >= now.boats.size(); }
    void act() { acts.addLast(now.copy()); if (acts.size() > 40) acts.removeFirst(); }

    void second(State s, boolean gusty, int holder, boolean still, Map<Character, Integer> line) {
      State old = s.copy();
      int n = s.boats.size();
      for (int i = 0; i < n; i++) {
        Boat b = s.boats.get(i), o = old.boats.get(i);
        if (i == holder) { b.v = still ? 0 : Math.min(b.m, b.v + 1); continue; }
        if (b.r < 0 || b.r >= rules.size()) continue;
        Map<Character, Integer> letters = new HashMap<>();
        letters.put('b', o.mark ? o.y : o.y + 5 - o.z);
        letters.put('t', line.get('s') - old.second);
        letters.put('v', o.v);
        letters.put('x', o.x);
        int c = 0;
        for (Boat p : old.boats) if (p != o && Math.abs(p.x - o.x) < 2) c++;
        letters.put('c', c);
        letters.put('w', old.shadowed(o) ? 1 : 0);
        letters.put('l', old.in(o.x - 1, o.y) != null ? 1 : 0);
        int w = worth(rules.get(b.r), letters);
        b.v = Math.max(0, Math.min(b.m, b.v + Integer.signum(w)));
      }
      if (gusty) for (Boat b : s.boats) if (draw(100) < gust) b.v = Math.max(0, Math.min(b.m, b.v + (draw(2) == 0 ? -1 : 1)));
      List<Integer> order = new ArrayList<>();
      for (int i = 0; i < n; i++) order.add(i);
      order.sort((i, j) -> old.boats.get(i).y != old.boats.get(j).y ? Integer.compare(old.boats.get(i).y, old.boats.get(j).y) : i - j);
      for (int i : order) {
        Boat b = s.boats.get(i);
        int lengths = Math.max(0, b.v - (old.shadowed(old.boats.get(i)) ? 1 : 0));
        while (lengths-- > 0) {
          if (s.in(b.x, b.y - 1) != null) { b.v = 0; break; }
          b.y--;
        }
      }
      s.second++;
      if (line.get('u') != 0 && s.second % line.get('u') == 0) for (Boat b : s.boats) b.y--;
      if (line.get('d') != 0 && s.second % line.get('d') == 0) {
        List<Boat> byColumn = new ArrayList<>(s.boats);
        byColumn.sort((a, b) -> b.x - a.x);
        for (Boat b : byColumn) if (b.x + 1 < line.get('w') && s.in(b.x + 1, b.y) == null) b.x++;
      }
      if (line.get('s') - s.second <= 9) for (Boat b : s.boats) if (b.y < 0) b.early = true;
    }
    State gun(State from) { State s = from.copy(); while (left(s) > 0) second(s, false, -1, false, line); return s; }
    int status(State s, int i, Map<Character, Integer> line) {
      Boat b = s.boats.get(i);
      return line.get('f') == 1 && b.early ? 2 : line.get('f') == 0 && b.y < 0 ? 1 : 0;
    }
    int score(State s, int i, Map<Character, Integer> line) {
      Boat b = s.boats.get(i);
      int far = line.get('e') == 0 ? line.get('w') - 1 - b.x : b.x, st = status(s, i, line);
      return 5 * line.get('a') * far / (line.get('w') - 1) + b.v - Math.max(0, b.y) - (s.shadowed(b) ? 5 : 0) - (st == 1 ? 30 : 0) - (st == 2 ? 100 : 0);
    }
    int place(State s, int i, Map<Character, Integer> line) {
      int p = 1;
      for (int j = 0; j < s.boats.size(); j++) {
        int d = score(s, j, line) - score(s, i, line);
        if (j != i && (d > 0 || d == 0 && j < i)) p++;
      }
      return p;
    }

    int feed(int... n) {
      String more = "";
      for (int v : n) for (int k = 3; k >= 0; k--) { char c = (char) (v >> 8 * k & 255); if (c != 0) more += c; }
      if (tape.length() + more.length() > 240) return NONE;
      tape += more;
      return tape.length();
    }
    boolean end(int n) { if (n < 0 || n > tape.length()) return false; tape = tape.substring(0, n); return true; }
    int fault(int sort) { return sort == 0 ? new WaterText(tape).fault : sort == 1 ? new RuleText(tape).fault() : -2; }
    int text(int sort) {
      if (sort == 1) {
        if (rules.size() == 4 || fault(1) != NONE) return NONE;
        rules.add(tape.replace(" ", ""));
        tape = "";
        return rules.size() - 1;
      }
      if (sort != 0 || fault(0) != NONE) return NONE;
      WaterText w = new WaterText(tape);
      line = w.line;
      told = new State();
      for (Map<Character, Integer> m : w.boats) {
        Boat b = new Boat();
        b.x = m.get('x'); b.y = m.get('y'); b.v = m.get('v'); b.m = m.get('m'); b.z = m.get('z'); b.r = m.get('r') == 4 ? NONE : m.get('r');
        told.boats.add(b);
      }
      now = told.copy();
      kept = null;
      acts.clear(); pictures.clear(); book.clear();
      tape = "";
      return now.boats.size();
    }
    int boat(int i, int what) {
      if (no(i) || what < 0 || what > 11) throw new NoSuchElementException();
      Boat b = now.boats.get(i);
      int[] all = {b.x, b.y, b.v, b.m, b.z, b.r, b.mark ? 1 : 0, b.early ? 1 : 0, status(now, i, line), score(now, i, line), place(now, i, line), b.mark ? b.y : b.y + 5 - b.z};
      return all[what];
    }
    int line(int what) { return line == null || what < 0 || what > 6 ? NONE : line.get("waeudsf".charAt(what)); }
    int rule(int i, int r) { if (no(i) || r < -1 || r > 3 || now.boats.get(i).r == r) return NONE; act(); now.boats.get(i).r = r; return acts.size(); }
    int mark(int i) { if (no(i) || now.boats.get(i).mark) return NONE; act(); now.boats.get(i).mark = true; return acts.size(); }
    int speed(int i, int v) { if (no(i) || v < 0 || v > now.boats.get(i).m || now.boats.get(i).v == v) return NONE; act(); now.boats.get(i).v = v; return acts.size(); }
    int steer(int i, int by) {
      if (no(i) || Math.abs((long) by) != 1) return NONE;
      Boat b = now.boats.get(i);
      int to = b.x + by;
      if (to < 0 || to >= line.get('w') || now.in(to, b.y) != null) return NONE;
      act();
      now.boats.get(i).x = to;
      return to;
    }
    boolean gust(int v) { if (v < 0 || v > 99 || v == gust) return false; gust = v; return true; }
    int go(int n, boolean gusty, long seed) {
      if (line == null || n < 1 || n > left(now)) return NONE;
      x = seed;
      for (int i = 0; i < n; i++) { act(); second(now, gusty, -1, false, line); }
      return now.second;
    }
    int undo() { if (acts.isEmpty()) return NONE; now = acts.removeLast(); return acts.size(); }
    int ahead(int i, int what) {
      if (no(i) || what < 0 || what > 5) return HIDDEN;
      State s = gun(now);
      Boat b = s.boats.get(i);
      return new int[] {b.x, b.y, b.v, status(s, i, line), score(s, i, line), place(s, i, line)}[what];
    }
    int from(int i, int x, int y) { State s = now.copy(); s.boats.get(i).x = x; s.boats.get(i).y = y; return score(gun(s), i, line); }
    int where(int i, int what) {
      if (no(i) || what < 0 || what > 1) return HIDDEN;
      Boat b = now.boats.get(i);
      int best = Integer.MIN_VALUE, at = -1;
      for (int c = line.get('w') - 1; c >= 0; c--) {
        if (now.in(c, b.y) != null && now.in(c, b.y) != b) continue;
        int s = from(i, c, b.y);
        if (s >= best) { best = s; at = c; }
      }
      return what == 0 ? at : best;
    }
    int near(int i, int what) {
      if (no(i) || what < 0 || what > 1) return HIDDEN;
      Boat b = now.boats.get(i);
      int best = Integer.MIN_VALUE, at = -1;
      for (int y = 19; y >= 0; y--) {
        if (now.in(b.x, y) != null && now.in(b.x, y) != b) continue;
        int s = from(i, b.x, y);
        if (s >= best) { best = s; at = y; }
      }
      return what == 0 ? at : best;
    }
    int hold(int i, int what) {
      if (no(i) || what < 0 || what > 1) return HIDDEN;
      int best = Integer.MIN_VALUE, at = -1;
      for (int h = left(now); h >= 0; h--) {
        State s = now.copy();
        for (int k = 0; left(s) > 0; k++) second(s, false, i, k < h, line);
        int sc = score(s, i, line);
        if (sc >= best) { best = sc; at = h; }
      }
      return what == 0 ? at : best;
    }
    int row(int i, int n) {
      if (no(i) || n < 1 || n > 9) return HIDDEN;
      Boat b = now.boats.get(i);
      return now.in(b.x, b.y + n) != null ? HIDDEN : from(i, b.x, b.y + n);
    }
    int tides() {
      if (line == null) return NONE;
      int n = 0;
      for (int k = now.second + 1; k <= line.get('s'); k++) if (line.get('u') != 0 && k % line.get('u') == 0) n++;
      return n;
    }
    int third(Boat b) { return b.x * 3 / line.get('w'); }
    int sag(int what) {
      if (line == null || what < 0 || what > 1) return HIDDEN;
      int a = 0, an = 0, b = 0, bn = 0;
      for (Boat o : now.boats) if (third(o) == 1) { a += o.y; an++; } else { b += o.y; bn++; }
      if (an == 0 || bn == 0) return HIDDEN;
      int up = a * bn - b * an, down = an * bn;
      for (int k = down; k > 1; k--) if (up % k == 0 && down % k == 0) { up /= k; down /= k; }
      return what == 0 ? up : down;
    }
    int heap(int t) { if (line == null || t < 0 || t > 2) return NONE; int n = 0; for (Boat b : now.boats) if (third(b) == t) n++; return n; }
    int hole(int i) {
      if (no(i)) return NONE;
      Boat b = now.boats.get(i);
      int n = 0;
      while (b.x - n - 1 >= 0 && now.in(b.x - n - 1, b.y) == null) n++;
      return n;
    }
    int keeps(int i) {
      if (no(i)) return NONE;
      State s = now.copy();
      for (int k = 0; ; k++) {
        if (s.in(s.boats.get(i).x - 1, s.boats.get(i).y) != null) return k;
        if (left(s) == 0) return NONE;
        second(s, false, -1, false, line);
      }
    }
    int which(int what) {
      if (line == null || what < 0 || what > 2) return NONE;
      int bits = 0;
      for (int i = 0; i < now.boats.size(); i++) {
        Boat b = now.boats.get(i);
        if (what == 0 ? !now.shadowed(b) : what == 1 ? b.y < 0 : status(now, i, line) == 2) bits += 1 << i;
      }
      return bits;
    }
    int has(String row, int i, int askew) {
      int t = row.charAt(i) - '0', others = -1;
      for (char c : row.toCharArray()) if (c - '0' == t) others++;
      return 5 * askew * (line.get('e') == 1 ? t : 2 - t) / 2 - 2 * others;
    }
    List<String> rows(int askew) {
      List<String> all = new ArrayList<>(List.of("")), rest = new ArrayList<>();
      for (int i = 0; i < now.boats.size(); i++) {
        List<String> longer = new ArrayList<>();
        for (String s : all) for (int t = 0; t < 3; t++) longer.add(s + t);
        all = longer;
      }
      for (String s : all) {
        boolean rests = true;
        for (int i = 0; i < s.length(); i++)
          for (int t = 0; t < 3; t++) if (has(s.substring(0, i) + t + s.substring(i + 1), i, askew) > has(s, i, askew)) rests = false;
        if (rests) rest.add(s);
      }
      return rest;
    }
    int rests(int i) {
      if (line == null) return NONE;
      if (now.boats.size() > 5) return HIDDEN;
      List<String> all = rows(line.get('a'));
      return i == NONE ? all.size() : i < 0 || i >= all.size() ? NONE : Integer.parseInt(all.get(i));
    }
    int spread(int what) {
      if (line == null || what < 0 || what > 1) return NONE;
      if (now.boats.size() > 5) return HIDDEN;
      int best = 99, at = 0;
      for (int a = 9; a >= 0; a--) {
        int[] n = new int[3];
        for (char c : rows(a).get(0).toCharArray()) n[c - '0']++;
        int full = Math.max(n[0], Math.max(n[1], n[2]));
        if (full <= best) { best = full; at = a; }
      }
      return what == 0 ? at : best;
    }
    int duel(int one, int other) {
      if (line == null || one < 0 || other < 0 || one >= rules.size() || other >= rules.size()) return HIDDEN;
      Map<Character, Integer> alone = new HashMap<>(Map.of('w', 2, 'a', 0, 'e', 0, 'u', 0, 'd', 0, 's', line.get('s'), 'f', 0));
      State s = new State();
      for (int i = 0; i < 2; i++) { Boat b = new Boat(); b.x = i; b.y = 9; b.m = 2; b.z = 5; b.r = i == 0 ? one : other; s.boats.add(b); }
      while (s.second < line.get('s')) second(s, false, -1, false, alone);
      return score(s, 0, alone) - score(s, 1, alone);
    }
    int reply(int r) {
      if (line == null || r < 0 || r >= rules.size()) return NONE;
      int at = 0;
      for (int i = 0; i < rules.size(); i++) if (duel(i, r) > duel(at, r)) at = i;
      return at;
    }
    int strong() {
      if (line == null || rules.isEmpty()) return NONE;
      int at = 0;
      int[] sums = new int[4];
      for (int i = 0; i < rules.size(); i++) {
        for (int j = 0; j < rules.size(); j++) sums[i] += duel(i, j);
        if (sums[i] > sums[at]) at = i;
      }
      return at;
    }
    int picture(int i, int a, int b) { if (no(i) || a < -20 || b > 20 || a > b || pictures.size() == 12) return NONE; pictures.add(new int[] {i, a, b}); return pictures.size(); }
    int was(int what) {
      if (line == null || what < 0 || what > 2) return NONE;
      int bits = 0;
      for (int i = 0; i < now.boats.size(); i++) {
        int over = 0, not = 0, seen = 0;
        for (int[] p : pictures) if (p[0] == i) seen++;
        for (int y = -20; y <= 20; y++) {
          boolean may = true;
          for (int[] p : pictures) if (p[0] == i && (y < p[1] || y > p[2])) may = false;
          if (may) { if (y < 0) over++; else not++; }
        }
        if (seen > 0 && (what == 0 ? over > 0 : what == 1 ? over > 0 && not == 0 : over + not == 0)) bits += 1 << i;
      }
      return bits;
    }
    void put(State s) { int[] p = new int[8]; for (int i = 0; i < s.boats.size(); i++) p[i] = place(s, i, line); book.add(p); }
    int race() { if (line == null || left(now) > 0 || book.size() == 40) return NONE; put(now); return book.size(); }
    int points(int i) { if (no(i)) return NONE; int n = 0; for (int[] p : book) n += p[i]; return n; }
    int champion() {
      if (line == null || book.isEmpty()) return NONE;
      int at = 0;
      for (int i = 0; i < now.boats.size(); i++) if (points(i) < points(at)) at = i;
      return at;
    }
    int season(int n, long seed) {
      if (line == null || n < 1 || n > 20 || book.size() + n > 40) return NONE;
      x = seed;
      for (int k = 0; k < n; k++) {
        State s = new State();
        for (Boat t : told.boats) {
          Boat b = t.copy();
          b.y = 5 + draw(10);
          b.x = draw(line.get('w'));
          for (int tried = 0; s.in(b.x, b.y) != null; ) {
            b.x = (b.x + 1) % line.get('w');
            if (++tried == line.get('w')) { b.y++; tried = 0; }
          }
          s.boats.add(b);
        }
        put(gun(s));
      }
      return book.size();
    }
    int flag(int i) {
      if (no(i)) return NONE;
      State s = gun(now);
      Map<Character, Integer> without = new HashMap<>(line), with = new HashMap<>(line);
      without.put('f', 0);
      with.put('f', 1);
      return place(s, i, with) < place(s, i, without) ? 1 : 0;
    }
    int image() { if (line == null) return NONE; kept = now.copy(); return now.second; }
    int back() { if (kept == null) return NONE; now = kept.copy(); acts.clear(); return now.second; }
    int count(int what) {
      int[] all = {now.boats.size(), rules.size(), tape.length(), now.second, gust, pictures.size(), book.size(), acts.size()};
      return what < 0 || what > 7 ? HIDDEN : all[what];
    }
  }

  // ---- random texts and runs -------------------------------------------------------------------------------

  static final class Maker {
    final Random r;
    int room;
    Maker(Random r) { this.r = r; }
    String gap() { return r.nextInt(12) == 0 ? " " : ""; }
    String atom(int d) {
      room--;
      int k = r.nextInt(10);
      if (k < 2 && d < 7 && room > 0) return "[" + sum(d + 1) + "]";
      if (k < 5) return "" + r.nextInt(new int[] {3, 12, 100, 10000}[r.nextInt(4)]);
      return "" + "btvxcwl".charAt(r.nextInt(7));
    }
    String term(int d) { String s = atom(d); while (room > 0 && r.nextInt(4) == 0) s += gap() + "*/".charAt(r.nextInt(2)) + gap() + atom(d); return s; }
    String sum(int d) { String s = term(d); while (room > 0 && r.nextInt(3) == 0) s += gap() + "+-".charAt(r.nextInt(2)) + term(d); return s; }
    String unit(int d) {
      int k = r.nextInt(8);
      if (k == 0 && d < 7 && room > 0) return "!" + gap() + unit(d + 1);
      if (k == 1 && d < 7 && room > 0) return "(" + condition(d + 1) + gap() + ")";
      return sum(d) + gap() + "=<>".charAt(r.nextInt(3)) + sum(d);
    }
    String truth(int d) { String s = unit(d); while (room > 0 && r.nextInt(3) == 0) s += "&" + unit(d); return s; }
    String condition(int d) { String s = truth(d); while (room > 0 && r.nextInt(3) == 0) s += "|" + truth(d); return s; }
    String rule() {
      room = 25;
      String s = "";
      int n = 1 + r.nextInt(4);
      for (int i = 0; i < n; i++) s += (i > 0 ? ";" : "") + gap() + "y" + gap() + ":" + (r.nextInt(3) > 0 ? condition(0) + gap() + "?" : "") + sum(0) + gap();
      return s;
    }
    String items(String[] spec, int many, boolean wild) {
      String s = "";
      for (String t : spec) {
        if (r.nextInt(10) >= many) continue;
        String[] b = t.substring(1).split(",");
        int lo = Integer.parseInt(b[0]), hi = Integer.parseInt(b[1]);
        int n = lo + r.nextInt(hi - lo + 1);
        if (t.charAt(0) == 's' && r.nextInt(3) > 0) n = 1 + r.nextInt(15);
        if (t.charAt(0) == 'x' && r.nextInt(3) > 0) n = r.nextInt(4);
        if (t.charAt(0) == 'y' && r.nextInt(2) > 0) n = r.nextInt(6);
        if (wild && r.nextInt(6) == 0) n = r.nextInt(110);
        s += gap() + t.charAt(0) + gap() + n;
      }
      return s;
    }
    String water(boolean wild) {
      int n = 1 + r.nextInt(8), at = r.nextInt(n + 1);
      String s = "";
      for (int i = 0; i <= n; i++) s += (i > 0 ? ";" : "") + gap() + (i == at ? "l" + items(SPEC, 6, wild) : "b" + items(BOAT_SPEC, 7, wild)) + gap();
      return s;
    }
    String spoil(String s) {
      StringBuilder b = new StringBuilder(s);
      String signs = "lbwaeudsfxyvmzrytc0123456789;:?|&!()[]=<>+-*/  " + (char) 233 + (char) 9;
      for (int k = r.nextInt(3); k > 0 && b.length() > 0; k--) {
        int at = r.nextInt(b.length());
        char c = signs.charAt(r.nextInt(signs.length()));
        switch (r.nextInt(4)) {
          case 0: b.setCharAt(at, c); break;
          case 1: b.insert(at, c); break;
          case 2: b.deleteCharAt(at); break;
          default: b.setLength(at);
        }
      }
      return b.toString();
    }
  }

  static final class Pair {
    final GunLine g = new GunLine();
    final Model m = new Model();
    final StringBuilder log = new StringBuilder();
    final int run;
    int calls = 0;
    Pair(int run) { this.run = run; }
    void same(String call, long got, long want) {
      calls++;
      if (calls > 512) return; // what later calls answer is free
      log.append(call).append(" -> ").append(got).append('\n');
      if (got != want) {
        wrong++;
        if (wrong < 6) System.out.println("run " + run + ": " + call + " answered " + got + ", the model says " + want + "\n" + log);
      }
    }
    void feed(String s) {
      for (int i = 0; i < s.length(); i += 20) {
        int[] n = new int[5];
        for (int k = 0; k < 20; k++) n[k / 4] = n[k / 4] << 8 | (i + k < s.length() ? s.charAt(i + k) : 0);
        same("feed '" + s.substring(i, Math.min(s.length(), i + 20)) + "'", g.feed(n[0], n[1], n[2], n[3], n[4]), m.feed(n));
      }
    }
    void boat(int i, int what) {
      long got, want;
      try { got = g.boat(i, what); } catch (NoSuchElementException e) { got = Long.MIN_VALUE; }
      try { want = m.boat(i, what); } catch (NoSuchElementException e) { want = Long.MIN_VALUE; }
      same("boat(" + i + ", " + what + ")", got, want);
    }
    void all() {
      for (int i = 0; i < m.now.boats.size(); i++) for (int w = 0; w < 12; w++) boat(i, w);
      for (int w = -1; w < 9; w++) same("count(" + w + ")", g.count(w), m.count(w));
    }
  }

  static void texts(int run) {
    Random r = new Random(run);
    Maker k = new Maker(r);
    Pair p = new Pair(run);
    for (int i = 0; i < 40; i++) {
      p.same("end(0)", p.g.end(0) ? 1 : 0, p.m.end(0) ? 1 : 0);
      int sort = r.nextInt(2);
      String s = sort == 0 ? k.water(r.nextInt(3) == 0) : k.rule();
      p.feed(r.nextInt(2) == 0 ? s : k.spoil(s));
      p.same("fault(" + sort + ")", p.g.fault(sort), p.m.fault(sort));
      p.same("fault(" + (1 - sort) + ")", p.g.fault(1 - sort), p.m.fault(1 - sort));
    }
  }

  static void water(Pair p, Maker k) {
    for (int tries = 0; tries < 50; tries++) {
      p.same("end(0)", p.g.end(0) ? 1 : 0, p.m.end(0) ? 1 : 0);
      p.feed(k.water(false));
      p.same("text(0)", p.g.text(0), p.m.text(0));
      if (p.m.tape.isEmpty()) return;
    }
  }

  static void run(int run) {
    Random r = new Random(run);
    Maker k = new Maker(r);
    Pair p = new Pair(run);
    GunLine g = p.g;
    Model m = p.m;
    if (r.nextInt(8) > 0) water(p, k);
    for (int i = r.nextInt(5); i > 0; i--) {
      p.same("end(0)", g.end(0) ? 1 : 0, m.end(0) ? 1 : 0);
      p.feed(k.rule());
      p.same("text(1)", g.text(1), m.text(1));
    }
    if (r.nextBoolean()) { int v = r.nextInt(100); p.same("gust(" + v + ")", g.gust(v) ? 1 : 0, m.gust(v) ? 1 : 0); }
    for (int i = 0; i < 200 && p.calls < 280; i++) call(p, r, k);
    p.all();
  }

  static void call(Pair p, Random r, Maker k) {
    GunLine g = p.g;
    Model m = p.m;
    int b = r.nextInt(12) == 0 ? r.nextInt(12) - 2 : r.nextInt(Math.max(1, m.now.boats.size()));
    int w = r.nextInt(10) == 0 ? r.nextInt(6) - 2 : r.nextInt(2);
    int t = r.nextInt(5) - 1;
    int n = r.nextInt(12) - 1;
    long seed = r.nextLong();
    switch (r.nextInt(44)) {
      case 0: if (r.nextInt(6) == 0) water(p, k); break;
      case 1: p.feed(k.spoil(k.rule())); p.same("fault(1)", g.fault(1), m.fault(1)); p.same("text(1)", g.text(1), m.text(1)); break;
      case 2: p.same("end(" + n + ")", g.end(n) ? 1 : 0, m.end(n) ? 1 : 0); break;
      case 3: p.same("fault(" + t + ")", g.fault(t), m.fault(t)); break;
      case 4: case 5: p.boat(b, r.nextInt(14) - 1); break;
      case 6: p.same("line(" + n + ")", g.line(n), m.line(n)); break;
      case 7: p.same("rule(" + b + ", " + t + ")", g.rule(b, t), m.rule(b, t)); break;
      case 8: p.same("mark(" + b + ")", g.mark(b), m.mark(b)); break;
      case 9: p.same("speed(" + b + ", " + t + ")", g.speed(b, t), m.speed(b, t)); break;
      case 10: case 11: { int by = r.nextInt(9) == 0 ? t : r.nextInt(2) * 2 - 1; p.same("steer(" + b + ", " + by + ")", g.steer(b, by), m.steer(b, by)); break; }
      case 12: p.same("gust(" + n * 10 + ")", g.gust(n * 10) ? 1 : 0, m.gust(n * 10) ? 1 : 0); break;
      case 13: case 14: { int s = r.nextInt(4); p.same("go(" + s + ")", g.go(s), m.go(s, false, 0)); p.all(); break; }
      case 15: case 16: { int s = r.nextInt(4); p.same("blow(" + s + ", " + seed + ")", g.blow(s, seed), m.go(s, true, seed)); p.all(); break; }
      case 17: case 18: p.same("undo()", g.undo(), m.undo()); break;
      case 19: { int a = r.nextInt(8) - 1; p.same("ahead(" + b + ", " + a + ")", g.ahead(b, a), m.ahead(b, a)); break; }
      case 20: p.same("where(" + b + ", " + w + ")", g.where(b, w), m.where(b, w)); break;
      case 21: p.same("near(" + b + ", " + w + ")", g.near(b, w), m.near(b, w)); break;
      case 22: p.same("hold(" + b + ", " + w + ")", g.hold(b, w), m.hold(b, w)); break;
      case 23: p.same("row(" + b + ", " + n + ")", g.row(b, n), m.row(b, n)); break;
      case 24: p.same("tides()", g.tides(), m.tides()); break;
      case 25: p.same("sag(" + w + ")", g.sag(w), m.sag(w)); break;
      case 26: p.same("heap(" + t + ")", g.heap(t), m.heap(t)); break;
      case 27: p.same("hole(" + b + ")", g.hole(b), m.hole(b)); break;
      case 28: p.same("keeps(" + b + ")", g.keeps(b), m.keeps(b)); break;
      case 29: p.same("which(" + t + ")", g.which(t), m.which(t)); break;
      case 30: p.same("rests(" + t + ")", g.rests(t), m.rests(t)); break;
      case 31: p.same("spread(" + w + ")", g.spread(w), m.spread(w)); break;
      case 32: p.same("duel(" + t + ", " + w + ")", g.duel(t, w), m.duel(t, w)); break;
      case 33: p.same("reply(" + t + ")", g.reply(t), m.reply(t)); break;
      case 34: p.same("strong()", g.strong(), m.strong()); break;
      case 35: { int a = r.nextInt(44) - 22, z = a + r.nextInt(20) - 2; p.same("picture(" + b + ", " + a + ", " + z + ")", g.picture(b, a, z), m.picture(b, a, z)); break; }
      case 36: p.same("was(" + t + ")", g.was(t), m.was(t)); break;
      case 37: {
        if (m.line != null && r.nextInt(3) == 0) { int s = m.left(m.now); p.same("go(" + s + ")", g.go(s), m.go(s, false, 0)); }
        p.same("race()", g.race(), m.race());
        break;
      }
      case 38: p.same("points(" + b + ")", g.points(b), m.points(b)); break;
      case 39: p.same("champion()", g.champion(), m.champion()); break;
      case 40: { int s = r.nextInt(9) == 0 ? r.nextInt(24) - 1 : r.nextInt(5); p.same("season(" + s + ", " + seed + ")", g.season(s, seed), m.season(s, seed)); p.all(); break; }
      case 41: p.same("flag(" + b + ")", g.flag(b), m.flag(b)); break;
      case 42: p.same("image()", g.image(), m.image()); break;
      default: p.same("back()", g.back(), m.back()); p.all();
    }
  }

  /** A short, narrow LINE with many BOATS, so that they meet, drift against one another and come over. */
  static String crowd(Random r) {
    int width = 2 + r.nextInt(3), many = 2 + r.nextInt(7);
    String s = "lw" + width + "a" + r.nextInt(10) + "e" + r.nextInt(2) + "u" + r.nextInt(5) + "d" + r.nextInt(4) + "s" + (2 + r.nextInt(12)) + "f" + r.nextInt(2);
    TreeSet<Integer> held = new TreeSet<>();
    while (held.size() < many) held.add(r.nextInt(width) * 20 + r.nextInt(4 + many));
    for (int cell : held) {
      int most = 1 + r.nextInt(3);
      s += ";bx" + cell / 20 + "y" + cell % 20 + "v" + r.nextInt(most + 1) + "m" + most + "z" + r.nextInt(10) + (r.nextBoolean() ? "r" + r.nextInt(5) : "");
    }
    return s;
  }

  static void looks(Pair p) {
    GunLine g = p.g;
    Model m = p.m;
    for (int b = 0; b < m.now.boats.size(); b++) {
      for (int w = 0; w < 6; w++) p.same("ahead(" + b + ", " + w + ")", g.ahead(b, w), m.ahead(b, w));
      for (int w = 0; w < 2; w++) {
        p.same("where(" + b + ", " + w + ")", g.where(b, w), m.where(b, w));
        p.same("near(" + b + ", " + w + ")", g.near(b, w), m.near(b, w));
        p.same("hold(" + b + ", " + w + ")", g.hold(b, w), m.hold(b, w));
      }
      p.same("row(" + b + ", 1)", g.row(b, 1), m.row(b, 1));
      p.same("row(" + b + ", 4)", g.row(b, 4), m.row(b, 4));
      p.same("hole(" + b + ")", g.hole(b), m.hole(b));
      p.same("keeps(" + b + ")", g.keeps(b), m.keeps(b));
      p.same("flag(" + b + ")", g.flag(b), m.flag(b));
    }
    for (int t = 0; t < 3; t++) {
      p.same("sag(" + t + ")", g.sag(t), m.sag(t));
      p.same("heap(" + t + ")", g.heap(t), m.heap(t));
      p.same("which(" + t + ")", g.which(t), m.which(t));
      p.same("rests(" + t + ")", g.rests(t), m.rests(t));
    }
  }

  /** All that can be looked at, ahead of some ACTS and behind them. */
  static void crowded(int run) {
    Random r = new Random(run);
    Pair p = new Pair(run);
    GunLine g = p.g;
    Model m = p.m;
    for (String rule : new String[] {"y:b-t", "y:w=1?1;y:c>2?0-1;y:t<6?1", "y:l=1?0-1;y:1"}) { p.feed(rule); p.same("text(1)", g.text(1), m.text(1)); }
    p.feed(crowd(r));
    p.same("text(0)", g.text(0), m.text(0));
    looks(p);
    for (int i = 0; i < 6; i++) {
      int b = r.nextInt(m.now.boats.size()), k = r.nextInt(4) - 1;
      p.same("speed(" + b + ", " + k + ")", g.speed(b, k), m.speed(b, k));
      p.same("rule(" + b + ", " + k + ")", g.rule(b, k), m.rule(b, k));
      p.same("steer(" + b + ", 1)", g.steer(b, 1), m.steer(b, 1));
      if (i % 3 == 0) p.same("mark(" + b + ")", g.mark(b), m.mark(b));
      if (i % 3 == 1) p.same("go(" + k + ")", g.go(k), m.go(k, false, 0));
    }
    looks(p);
  }

  public static void main(String[] args) {
    int runs = args.length > 0 ? Integer.parseInt(args[0]) : 900;
    for (int i = 0; i < runs; i++) { texts(i); run(i); crowded(i); }
    System.out.println(wrong == 0 ? runs + " runs are as the model's" : wrong + " answers are not as the model's");
    if (wrong != 0) System.exit(1);
  }
}
